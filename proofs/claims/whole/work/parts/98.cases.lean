set_option maxRecDepth 100000 in
set_option maxHeartbeats 4000000 in
theorem y_0 {g : G0} (hG : Gd g) {h : G1} {Q : State → Prop} {xs : Nat → Int32} {n i : Nat} (hX : Scr g h xs n) (hi : i + 5 ≤ n) {S : SS} (hR : RLaw S) {bb : Nat} (k : ∀ S2, RLaw S2 → wp g h mL_law (mixW g S2) [some (.ref 41), some (.ref 0), some (.ref 26), some (.ref 40), some (.int (nI i)), none, none, none] [] bb Q 1910) : wp g h mL_law (mixW g S) [some (.ref 41), some (.ref 0), some (.ref 26), some (.ref 40), some (.int (nI i)), none, none, none] [] (bb + 8) Q 188 := by
  obtain ⟨pw, hw, hwi⟩ := op_append hG hR (xs (i + 1))
  refine q_aload_n dL_law_188 rfl ?_
  refine q_aload_n dL_law_189 rfl ?_
  refine q_iload dL_law_190 rfl ?_
  refine q_iconst (v := 1) dL_law_192 rfl ?_
  refine q_iadd dL_law_193 ?_
  refine q_sld hX dL_law_194 (i + 1) (nI_add i 1) (by omega) ?_
  refine q_aload_n dL_law_195 rfl ?_
  refine q_callSH (ν := mL_append) dL_law_196 uw_467 vL_append hw rfl rfl (Nat.le_of_ble_eq_true rfl) (Nat.le_of_ble_eq_true rfl) (Nat.le_of_ble_eq_true rfl) (bb + 6) (show 2 + (bb + 6) ≤ bb + 8 by omega) (fun v w1 hv => ?_)
  obtain ⟨k1, S1, rfl, rfl, kk, rfl, pm, hm, hmi⟩ := hwi v w1 hv
  refine wp_eq (st2 := [.int kk]) rfl ?_
  refine q_ist5 dL_law_199 (Nat.le_of_ble_eq_true rfl) rfl ?_
  refine q_aload_n dL_law_201 rfl ?_
  refine q_aload_n dL_law_202 rfl ?_
  refine q_iload dL_law_203 rfl ?_
  refine q_iconst (v := 1) dL_law_205 rfl ?_
  refine q_iadd dL_law_206 ?_
  refine q_sld hX dL_law_207 (i + 1) (nI_add i 1) (by omega) ?_
  refine q_callVn (ν := mX10_append) dL_law_208 uw_992 vX10_append hm (Nat.le_of_ble_eq_true rfl) rfl rfl rfl rfl (Nat.le_of_ble_eq_true rfl) (Nat.le_of_ble_eq_true rfl) (Nat.le_of_ble_eq_true rfl) (bb + 6) (show 0 + (bb + 6) ≤ bb + 6 by omega) (fun v w1 hv => ?_)
  obtain ⟨b1, S2, rfl, rfl, b2, rfl, hrf, hou, hrl⟩ := hmi v w1 hv
  refine wp_eq (st2 := [.int (b2)]) rfl ?_
  refine q_ist6 dL_law_211 (Nat.le_of_ble_eq_true rfl) rfl ?_
  refine q_aload_n dL_law_213 rfl ?_
  refine q_callVv (ν := mX10_thrown) dL_law_214 uw_988 vX10_thrown (c_X10_thrown hG S2) (Nat.le_of_ble_eq_true rfl) rfl rfl rfl rfl (Nat.le_of_ble_eq_true rfl) (Nat.le_of_ble_eq_true rfl) (Nat.le_of_ble_eq_true rfl) (bb + 6) (show 0 + (bb + 6) ≤ bb + 6 by omega) ?_
  refine q_iload dL_law_217 rfl ?_
  refine q_icmp_eq 224 dL_law_219 rfl (fun c => ?_) (fun c => absurd hrf c)
  refine q_iload dL_law_224 rfl ?_
  refine q_if_ne 241 dL_law_226 rfl (fun c2 => ?_) (fun c2 => ?_)
  · refine q_goto 1910 dL_law_241 rfl ?_
    refine wp_fg (L2 := [some (.ref 41), some (.ref 0), some (.ref 26), some (.ref 40), some (.int (nI i)), none, none, none]) ⟨rfl, rfl, rfl, rfl, rfl, trivial⟩ ?_
    refine wp_b (b2 := bb) (by omega) ?_
    exact k S2 hrl
  · refine q_aload_n dL_law_229 rfl ?_
    refine q_iconst (v := 0) dL_law_230 rfl ?_
    refine q_lald (f := z_OU S2) dL_law_231 (Nat.le_of_ble_eq_true rfl) rfl 0 rfl (Nat.le_of_ble_eq_true rfl) (Nat.le_of_ble_eq_true rfl) ?_
    refine q_iload dL_law_232 rfl ?_
    refine q_i2l dL_law_234 ?_
    refine q_lcmp_eq 241 dL_law_235 dL_law_236 rfl (fun c4 => ?_) (fun c4 => absurd (hou c2) c4)
    refine q_goto 1910 dL_law_241 rfl ?_
    refine wp_fg (L2 := [some (.ref 41), some (.ref 0), some (.ref 26), some (.ref 40), some (.int (nI i)), none, none, none]) ⟨rfl, rfl, rfl, rfl, rfl, trivial⟩ ?_
    refine wp_b (b2 := bb) (by omega) ?_
    exact k S2 hrl
set_option maxRecDepth 100000 in
set_option maxHeartbeats 4000000 in
theorem y_1 {g : G0} (hG : Gd g) {h : G1} {Q : State → Prop} {xs : Nat → Int32} {n i : Nat} (hX : Scr g h xs n) (hi : i + 5 ≤ n) {S : SS} (hR : RLaw S) {bb : Nat} (k : ∀ S2, RLaw S2 → wp g h mL_law (mixW g S2) [some (.ref 41), some (.ref 0), some (.ref 26), some (.ref 40), some (.int (nI i)), none, none, none] [] bb Q 1910) : wp g h mL_law (mixW g S) [some (.ref 41), some (.ref 0), some (.ref 26), some (.ref 40), some (.int (nI i)), none, none, none] [] (bb + 8) Q 244 := by
  obtain ⟨pw, hw, hwi⟩ := op_clearText hG hR
  refine q_aload_n dL_law_244 rfl ?_
  refine q_callVn (ν := mX9_clearText) dL_law_245 uw_248 vX9_clearText hw (Nat.le_of_ble_eq_true rfl) rfl rfl rfl rfl (Nat.le_of_ble_eq_true rfl) (Nat.le_of_ble_eq_true rfl) (Nat.le_of_ble_eq_true rfl) (bb + 8) (show 0 + (bb + 8) ≤ bb + 8 by omega) (fun v w1 hv => ?_)
  obtain ⟨k1, S1, rfl, rfl, kk, rfl, pm, hm, hmi⟩ := hwi v w1 hv
  refine wp_eq (st2 := [.int kk]) rfl ?_
  refine q_aload_n dL_law_248 rfl ?_
  refine q_callVn (ν := mX10_clearText) dL_law_249 uw_1004 vX10_clearText hm (Nat.le_of_ble_eq_true rfl) rfl rfl rfl rfl (Nat.le_of_ble_eq_true rfl) (Nat.le_of_ble_eq_true rfl) (Nat.le_of_ble_eq_true rfl) (bb + 8) (show 0 + (bb + 8) ≤ bb + 8 by omega) (fun v w1 hv => ?_)
  obtain ⟨b1, S2, rfl, rfl, rfl, hrl⟩ := hmi v w1 hv
  refine wp_eq (st2 := [.int kk, .int kk]) rfl ?_
  refine q_icmp_eq 1910 dL_law_252 rfl (fun c => ?_) (fun c => absurd rfl c)
  refine wp_b (b2 := bb) (by omega) ?_
  exact k S2 hrl
set_option maxRecDepth 100000 in
set_option maxHeartbeats 4000000 in
theorem y_2 {g : G0} (hG : Gd g) {h : G1} {Q : State → Prop} {xs : Nat → Int32} {n i : Nat} (hX : Scr g h xs n) (hi : i + 5 ≤ n) {S : SS} (hR : RLaw S) {bb : Nat} (k : ∀ S2, RLaw S2 → wp g h mL_law (mixW g S2) [some (.ref 41), some (.ref 0), some (.ref 26), some (.ref 40), some (.int (nI i)), none, none, none] [] bb Q 1910) : wp g h mL_law (mixW g S) [some (.ref 41), some (.ref 0), some (.ref 26), some (.ref 40), some (.int (nI i)), none, none, none] [] (bb + 8) Q 257 := by
  obtain ⟨pw, hw, hwi⟩ := op_errorPosition hG hR
  refine q_aload_n dL_law_257 rfl ?_
  refine q_callVn (ν := mX9_errorPosition) dL_law_258 uw_256 vX9_errorPosition hw (Nat.le_of_ble_eq_true rfl) rfl rfl rfl rfl (Nat.le_of_ble_eq_true rfl) (Nat.le_of_ble_eq_true rfl) (Nat.le_of_ble_eq_true rfl) (bb + 8) (show 0 + (bb + 8) ≤ bb + 8 by omega) (fun v w1 hv => ?_)
  obtain ⟨k1, S1, rfl, rfl, kk, rfl, pm, hm, hmi⟩ := hwi v w1 hv
  refine wp_eq (st2 := [.int kk]) rfl ?_
  refine q_aload_n dL_law_261 rfl ?_
  refine q_callVn (ν := mX10_errorPosition) dL_law_262 uw_1008 vX10_errorPosition hm (Nat.le_of_ble_eq_true rfl) rfl rfl rfl rfl (Nat.le_of_ble_eq_true rfl) (Nat.le_of_ble_eq_true rfl) (Nat.le_of_ble_eq_true rfl) (bb + 8) (show 0 + (bb + 8) ≤ bb + 8 by omega) (fun v w1 hv => ?_)
  obtain ⟨b1, S2, rfl, rfl, rfl, hrl⟩ := hmi v w1 hv
  refine wp_eq (st2 := [.int kk, .int kk]) rfl ?_
  refine q_icmp_eq 1910 dL_law_265 rfl (fun c => ?_) (fun c => absurd rfl c)
  refine wp_b (b2 := bb) (by omega) ?_
  exact k S2 hrl
set_option maxRecDepth 100000 in
set_option maxHeartbeats 4000000 in
theorem y_3 {g : G0} (hG : Gd g) {h : G1} {Q : State → Prop} {xs : Nat → Int32} {n i : Nat} (hX : Scr g h xs n) (hi : i + 5 ≤ n) {S : SS} (hR : RLaw S) {bb : Nat} (k : ∀ S2, RLaw S2 → wp g h mL_law (mixW g S2) [some (.ref 41), some (.ref 0), some (.ref 26), some (.ref 40), some (.int (nI i)), none, none, none] [] bb Q 1910) : wp g h mL_law (mixW g S) [some (.ref 41), some (.ref 0), some (.ref 26), some (.ref 40), some (.int (nI i)), none, none, none] [] (bb + 8) Q 270 := by
  obtain ⟨pw, hw, hwi⟩ := op_load hG hR 
  refine q_aload_n dL_law_270 rfl ?_
  refine q_aload_n dL_law_271 rfl ?_
  refine q_callSH (ν := mL_load) dL_law_272 uw_571 vL_load hw rfl rfl (Nat.le_of_ble_eq_true rfl) (Nat.le_of_ble_eq_true rfl) (Nat.le_of_ble_eq_true rfl) (bb + 7) (show 1 + (bb + 7) ≤ bb + 8 by omega) (fun v w1 hv => ?_)
  obtain ⟨k1, S1, rfl, rfl, kk, rfl, pm, hm, hmi⟩ := hwi v w1 hv
  refine wp_eq (st2 := [.int kk]) rfl ?_
  refine q_ist5 dL_law_275 (Nat.le_of_ble_eq_true rfl) rfl ?_
  refine q_aload_n dL_law_277 rfl ?_
  refine q_callVn (ν := mX10_load) dL_law_278 uw_1038 vX10_load hm (Nat.le_of_ble_eq_true rfl) rfl rfl rfl rfl (Nat.le_of_ble_eq_true rfl) (Nat.le_of_ble_eq_true rfl) (Nat.le_of_ble_eq_true rfl) (bb + 7) (show 0 + (bb + 7) ≤ bb + 7 by omega) (fun v w1 hv => ?_)
  obtain ⟨b1, S2, rfl, rfl, b2, rfl, hrf, hou, hrl⟩ := hmi v w1 hv
  refine wp_eq (st2 := [.int (b2)]) rfl ?_
  refine q_ist6 dL_law_281 (Nat.le_of_ble_eq_true rfl) rfl ?_
  refine q_aload_n dL_law_283 rfl ?_
  refine q_callVv (ν := mX10_thrown) dL_law_284 uw_988 vX10_thrown (c_X10_thrown hG S2) (Nat.le_of_ble_eq_true rfl) rfl rfl rfl rfl (Nat.le_of_ble_eq_true rfl) (Nat.le_of_ble_eq_true rfl) (Nat.le_of_ble_eq_true rfl) (bb + 7) (show 0 + (bb + 7) ≤ bb + 7 by omega) ?_
  refine q_iload dL_law_287 rfl ?_
  refine q_icmp_eq 294 dL_law_289 rfl (fun c => ?_) (fun c => absurd hrf c)
  refine q_iload dL_law_294 rfl ?_
  refine q_if_ne 311 dL_law_296 rfl (fun c2 => ?_) (fun c2 => ?_)
  · refine q_goto 1910 dL_law_311 rfl ?_
    refine wp_fg (L2 := [some (.ref 41), some (.ref 0), some (.ref 26), some (.ref 40), some (.int (nI i)), none, none, none]) ⟨rfl, rfl, rfl, rfl, rfl, trivial⟩ ?_
    refine wp_b (b2 := bb) (by omega) ?_
    exact k S2 hrl
  · refine q_aload_n dL_law_299 rfl ?_
    refine q_iconst (v := 0) dL_law_300 rfl ?_
    refine q_lald (f := z_OU S2) dL_law_301 (Nat.le_of_ble_eq_true rfl) rfl 0 rfl (Nat.le_of_ble_eq_true rfl) (Nat.le_of_ble_eq_true rfl) ?_
    refine q_iload dL_law_302 rfl ?_
    refine q_i2l dL_law_304 ?_
    refine q_lcmp_eq 311 dL_law_305 dL_law_306 rfl (fun c4 => ?_) (fun c4 => absurd (hou c2) c4)
    refine q_goto 1910 dL_law_311 rfl ?_
    refine wp_fg (L2 := [some (.ref 41), some (.ref 0), some (.ref 26), some (.ref 40), some (.int (nI i)), none, none, none]) ⟨rfl, rfl, rfl, rfl, rfl, trivial⟩ ?_
    refine wp_b (b2 := bb) (by omega) ?_
    exact k S2 hrl
set_option maxRecDepth 100000 in
set_option maxHeartbeats 4000000 in
theorem y_4 {g : G0} (hG : Gd g) {h : G1} {Q : State → Prop} {xs : Nat → Int32} {n i : Nat} (hX : Scr g h xs n) (hi : i + 5 ≤ n) {S : SS} (hR : RLaw S) {bb : Nat} (k : ∀ S2, RLaw S2 → wp g h mL_law (mixW g S2) [some (.ref 41), some (.ref 0), some (.ref 26), some (.ref 40), some (.int (nI i)), none, none, none] [] bb Q 1910) : wp g h mL_law (mixW g S) [some (.ref 41), some (.ref 0), some (.ref 26), some (.ref 40), some (.int (nI i)), none, none, none] [] (bb + 8) Q 314 := by
  obtain ⟨pw, hw, hwi⟩ := op_cellCount hG hR
  refine q_aload_n dL_law_314 rfl ?_
  refine q_callVn (ν := mX9_cellCount) dL_law_315 uw_276 vX9_cellCount hw (Nat.le_of_ble_eq_true rfl) rfl rfl rfl rfl (Nat.le_of_ble_eq_true rfl) (Nat.le_of_ble_eq_true rfl) (Nat.le_of_ble_eq_true rfl) (bb + 8) (show 0 + (bb + 8) ≤ bb + 8 by omega) (fun v w1 hv => ?_)
  obtain ⟨k1, S1, rfl, rfl, kk, rfl, pm, hm, hmi⟩ := hwi v w1 hv
  refine wp_eq (st2 := [.int kk]) rfl ?_
  refine q_aload_n dL_law_318 rfl ?_
  refine q_callVn (ν := mX10_cellCount) dL_law_319 uw_1045 vX10_cellCount hm (Nat.le_of_ble_eq_true rfl) rfl rfl rfl rfl (Nat.le_of_ble_eq_true rfl) (Nat.le_of_ble_eq_true rfl) (Nat.le_of_ble_eq_true rfl) (bb + 8) (show 0 + (bb + 8) ≤ bb + 8 by omega) (fun v w1 hv => ?_)
  obtain ⟨b1, S2, rfl, rfl, rfl, hrl⟩ := hmi v w1 hv
  refine wp_eq (st2 := [.int kk, .int kk]) rfl ?_
  refine q_icmp_eq 1910 dL_law_322 rfl (fun c => ?_) (fun c => absurd rfl c)
  refine wp_b (b2 := bb) (by omega) ?_
  exact k S2 hrl
set_option maxRecDepth 100000 in
set_option maxHeartbeats 4000000 in
theorem y_5 {g : G0} (hG : Gd g) {h : G1} {Q : State → Prop} {xs : Nat → Int32} {n i : Nat} (hX : Scr g h xs n) (hi : i + 5 ≤ n) {S : SS} (hR : RLaw S) {bb : Nat} (k : ∀ S2, RLaw S2 → wp g h mL_law (mixW g S2) [some (.ref 41), some (.ref 0), some (.ref 26), some (.ref 40), some (.int (nI i)), none, none, none] [] bb Q 1910) : wp g h mL_law (mixW g S) [some (.ref 41), some (.ref 0), some (.ref 26), some (.ref 40), some (.int (nI i)), none, none, none] [] (bb + 8) Q 327 := by
  obtain ⟨pw, hw, hwi⟩ := op_recovery hG hR (xs (i + 1)) (xs (i + 2))
  refine q_aload_n dL_law_327 rfl ?_
  refine q_aload_n dL_law_328 rfl ?_
  refine q_iload dL_law_329 rfl ?_
  refine q_iconst (v := 1) dL_law_331 rfl ?_
  refine q_iadd dL_law_332 ?_
  refine q_sld hX dL_law_333 (i + 1) (nI_add i 1) (by omega) ?_
  refine q_aload_n dL_law_334 rfl ?_
  refine q_iload dL_law_335 rfl ?_
  refine q_iconst (v := 2) dL_law_337 rfl ?_
  refine q_iadd dL_law_338 ?_
  refine q_sld hX dL_law_339 (i + 2) (nI_add i 2) (by omega) ?_
  refine q_aload_n dL_law_340 rfl ?_
  refine q_callSH (ν := mL_recovery) dL_law_341 uw_613 vL_recovery hw rfl rfl (Nat.le_of_ble_eq_true rfl) (Nat.le_of_ble_eq_true rfl) (Nat.le_of_ble_eq_true rfl) (bb + 6) (show 2 + (bb + 6) ≤ bb + 8 by omega) (fun v w1 hv => ?_)
  obtain ⟨k1, S1, rfl, rfl, kk, rfl, pm, hm, hmi⟩ := hwi v w1 hv
  refine wp_eq (st2 := [.int kk]) rfl ?_
  refine q_ist5 dL_law_344 (Nat.le_of_ble_eq_true rfl) rfl ?_
  refine q_aload_n dL_law_346 rfl ?_
  refine q_aload_n dL_law_347 rfl ?_
  refine q_iload dL_law_348 rfl ?_
  refine q_iconst (v := 1) dL_law_350 rfl ?_
  refine q_iadd dL_law_351 ?_
  refine q_sld hX dL_law_352 (i + 1) (nI_add i 1) (by omega) ?_
  refine q_aload_n dL_law_353 rfl ?_
  refine q_iload dL_law_354 rfl ?_
  refine q_iconst (v := 2) dL_law_356 rfl ?_
  refine q_iadd dL_law_357 ?_
  refine q_sld hX dL_law_358 (i + 2) (nI_add i 2) (by omega) ?_
  refine q_callVn (ν := mX10_recovery) dL_law_359 uw_1049 vX10_recovery hm (Nat.le_of_ble_eq_true rfl) rfl rfl rfl rfl (Nat.le_of_ble_eq_true rfl) (Nat.le_of_ble_eq_true rfl) (Nat.le_of_ble_eq_true rfl) (bb + 6) (show 0 + (bb + 6) ≤ bb + 6 by omega) (fun v w1 hv => ?_)
  obtain ⟨b1, S2, rfl, rfl, b2, rfl, hrf, hou, hrl⟩ := hmi v w1 hv
  refine wp_eq (st2 := [.int (b2)]) rfl ?_
  refine q_ist6 dL_law_362 (Nat.le_of_ble_eq_true rfl) rfl ?_
  refine q_aload_n dL_law_364 rfl ?_
  refine q_callVv (ν := mX10_thrown) dL_law_365 uw_988 vX10_thrown (c_X10_thrown hG S2) (Nat.le_of_ble_eq_true rfl) rfl rfl rfl rfl (Nat.le_of_ble_eq_true rfl) (Nat.le_of_ble_eq_true rfl) (Nat.le_of_ble_eq_true rfl) (bb + 6) (show 0 + (bb + 6) ≤ bb + 6 by omega) ?_
  refine q_iload dL_law_368 rfl ?_
  refine q_icmp_eq 375 dL_law_370 rfl (fun c => ?_) (fun c => absurd hrf c)
  refine q_iload dL_law_375 rfl ?_
  refine q_if_ne 392 dL_law_377 rfl (fun c2 => ?_) (fun c2 => ?_)
  · refine q_goto 1910 dL_law_392 rfl ?_
    refine wp_fg (L2 := [some (.ref 41), some (.ref 0), some (.ref 26), some (.ref 40), some (.int (nI i)), none, none, none]) ⟨rfl, rfl, rfl, rfl, rfl, trivial⟩ ?_
    refine wp_b (b2 := bb) (by omega) ?_
    exact k S2 hrl
  · refine q_aload_n dL_law_380 rfl ?_
    refine q_iconst (v := 0) dL_law_381 rfl ?_
    refine q_lald (f := z_OU S2) dL_law_382 (Nat.le_of_ble_eq_true rfl) rfl 0 rfl (Nat.le_of_ble_eq_true rfl) (Nat.le_of_ble_eq_true rfl) ?_
    refine q_iload dL_law_383 rfl ?_
    refine q_i2l dL_law_385 ?_
    refine q_lcmp_eq 392 dL_law_386 dL_law_387 rfl (fun c4 => ?_) (fun c4 => absurd (hou c2) c4)
    refine q_goto 1910 dL_law_392 rfl ?_
    refine wp_fg (L2 := [some (.ref 41), some (.ref 0), some (.ref 26), some (.ref 40), some (.int (nI i)), none, none, none]) ⟨rfl, rfl, rfl, rfl, rfl, trivial⟩ ?_
    refine wp_b (b2 := bb) (by omega) ?_
    exact k S2 hrl
set_option maxRecDepth 100000 in
set_option maxHeartbeats 4000000 in
theorem y_6 {g : G0} (hG : Gd g) {h : G1} {Q : State → Prop} {xs : Nat → Int32} {n i : Nat} (hX : Scr g h xs n) (hi : i + 5 ≤ n) {S : SS} (hR : RLaw S) {bb : Nat} (k : ∀ S2, RLaw S2 → wp g h mL_law (mixW g S2) [some (.ref 41), some (.ref 0), some (.ref 26), some (.ref 40), some (.int (nI i)), none, none, none] [] bb Q 1910) : wp g h mL_law (mixW g S) [some (.ref 41), some (.ref 0), some (.ref 26), some (.ref 40), some (.int (nI i)), none, none, none] [] (bb + 8) Q 395 := by
  obtain ⟨pw, hw, hwi⟩ := op_destination hG hR (xs (i + 1)) (xs (i + 2))
  refine q_aload_n dL_law_395 rfl ?_
  refine q_aload_n dL_law_396 rfl ?_
  refine q_iload dL_law_397 rfl ?_
  refine q_iconst (v := 1) dL_law_399 rfl ?_
  refine q_iadd dL_law_400 ?_
  refine q_sld hX dL_law_401 (i + 1) (nI_add i 1) (by omega) ?_
  refine q_aload_n dL_law_402 rfl ?_
  refine q_iload dL_law_403 rfl ?_
  refine q_iconst (v := 2) dL_law_405 rfl ?_
  refine q_iadd dL_law_406 ?_
  refine q_sld hX dL_law_407 (i + 2) (nI_add i 2) (by omega) ?_
  refine q_aload_n dL_law_408 rfl ?_
  refine q_callSH (ν := mL_destination) dL_law_409 uw_646 vL_destination hw rfl rfl (Nat.le_of_ble_eq_true rfl) (Nat.le_of_ble_eq_true rfl) (Nat.le_of_ble_eq_true rfl) (bb + 6) (show 2 + (bb + 6) ≤ bb + 8 by omega) (fun v w1 hv => ?_)
  obtain ⟨k1, S1, rfl, rfl, kk, rfl, pm, hm, hmi⟩ := hwi v w1 hv
  refine wp_eq (st2 := [.int kk]) rfl ?_
  refine q_ist5 dL_law_412 (Nat.le_of_ble_eq_true rfl) rfl ?_
  refine q_aload_n dL_law_414 rfl ?_
  refine q_aload_n dL_law_415 rfl ?_
  refine q_iload dL_law_416 rfl ?_
  refine q_iconst (v := 1) dL_law_418 rfl ?_
  refine q_iadd dL_law_419 ?_
  refine q_sld hX dL_law_420 (i + 1) (nI_add i 1) (by omega) ?_
  refine q_aload_n dL_law_421 rfl ?_
  refine q_iload dL_law_422 rfl ?_
  refine q_iconst (v := 2) dL_law_424 rfl ?_
  refine q_iadd dL_law_425 ?_
  refine q_sld hX dL_law_426 (i + 2) (nI_add i 2) (by omega) ?_
  refine q_callVn (ν := mX10_destination) dL_law_427 uw_1060 vX10_destination hm (Nat.le_of_ble_eq_true rfl) rfl rfl rfl rfl (Nat.le_of_ble_eq_true rfl) (Nat.le_of_ble_eq_true rfl) (Nat.le_of_ble_eq_true rfl) (bb + 6) (show 0 + (bb + 6) ≤ bb + 6 by omega) (fun v w1 hv => ?_)
  obtain ⟨b1, S2, rfl, rfl, b2, rfl, hrf, hou, hrl⟩ := hmi v w1 hv
  refine wp_eq (st2 := [.int (b2)]) rfl ?_
  refine q_ist6 dL_law_430 (Nat.le_of_ble_eq_true rfl) rfl ?_
  refine q_aload_n dL_law_432 rfl ?_
  refine q_callVv (ν := mX10_thrown) dL_law_433 uw_988 vX10_thrown (c_X10_thrown hG S2) (Nat.le_of_ble_eq_true rfl) rfl rfl rfl rfl (Nat.le_of_ble_eq_true rfl) (Nat.le_of_ble_eq_true rfl) (Nat.le_of_ble_eq_true rfl) (bb + 6) (show 0 + (bb + 6) ≤ bb + 6 by omega) ?_
  refine q_iload dL_law_436 rfl ?_
  refine q_icmp_eq 443 dL_law_438 rfl (fun c => ?_) (fun c => absurd hrf c)
  refine q_iload dL_law_443 rfl ?_
  refine q_if_ne 460 dL_law_445 rfl (fun c2 => ?_) (fun c2 => ?_)
  · refine q_goto 1910 dL_law_460 rfl ?_
    refine wp_fg (L2 := [some (.ref 41), some (.ref 0), some (.ref 26), some (.ref 40), some (.int (nI i)), none, none, none]) ⟨rfl, rfl, rfl, rfl, rfl, trivial⟩ ?_
    refine wp_b (b2 := bb) (by omega) ?_
    exact k S2 hrl
  · refine q_aload_n dL_law_448 rfl ?_
    refine q_iconst (v := 0) dL_law_449 rfl ?_
    refine q_lald (f := z_OU S2) dL_law_450 (Nat.le_of_ble_eq_true rfl) rfl 0 rfl (Nat.le_of_ble_eq_true rfl) (Nat.le_of_ble_eq_true rfl) ?_
    refine q_iload dL_law_451 rfl ?_
    refine q_i2l dL_law_453 ?_
    refine q_lcmp_eq 460 dL_law_454 dL_law_455 rfl (fun c4 => ?_) (fun c4 => absurd (hou c2) c4)
    refine q_goto 1910 dL_law_460 rfl ?_
    refine wp_fg (L2 := [some (.ref 41), some (.ref 0), some (.ref 26), some (.ref 40), some (.int (nI i)), none, none, none]) ⟨rfl, rfl, rfl, rfl, rfl, trivial⟩ ?_
    refine wp_b (b2 := bb) (by omega) ?_
    exact k S2 hrl
set_option maxRecDepth 100000 in
set_option maxHeartbeats 4000000 in
theorem y_7 {g : G0} (hG : Gd g) {h : G1} {Q : State → Prop} {xs : Nat → Int32} {n i : Nat} (hX : Scr g h xs n) (hi : i + 5 ≤ n) {S : SS} (hR : RLaw S) {bb : Nat} (k : ∀ S2, RLaw S2 → wp g h mL_law (mixW g S2) [some (.ref 41), some (.ref 0), some (.ref 26), some (.ref 40), some (.int (nI i)), none, none, none] [] bb Q 1910) : wp g h mL_law (mixW g S) [some (.ref 41), some (.ref 0), some (.ref 26), some (.ref 40), some (.int (nI i)), none, none, none] [] (bb + 8) Q 463 := by
  obtain ⟨pw, hw, hwi⟩ := op_feedCell hG hR
  refine q_aload_n dL_law_463 rfl ?_
  refine q_callVn (ν := mX9_feedCell) dL_law_464 uw_284 vX9_feedCell hw (Nat.le_of_ble_eq_true rfl) rfl rfl rfl rfl (Nat.le_of_ble_eq_true rfl) (Nat.le_of_ble_eq_true rfl) (Nat.le_of_ble_eq_true rfl) (bb + 8) (show 0 + (bb + 8) ≤ bb + 8 by omega) (fun v w1 hv => ?_)
  obtain ⟨k1, S1, rfl, rfl, kk, rfl, pm, hm, hmi⟩ := hwi v w1 hv
  refine wp_eq (st2 := [.int kk]) rfl ?_
  refine q_aload_n dL_law_467 rfl ?_
  refine q_callVn (ν := mX10_feedCell) dL_law_468 uw_1064 vX10_feedCell hm (Nat.le_of_ble_eq_true rfl) rfl rfl rfl rfl (Nat.le_of_ble_eq_true rfl) (Nat.le_of_ble_eq_true rfl) (Nat.le_of_ble_eq_true rfl) (bb + 8) (show 0 + (bb + 8) ≤ bb + 8 by omega) (fun v w1 hv => ?_)
  obtain ⟨b1, S2, rfl, rfl, rfl, hrl⟩ := hmi v w1 hv
  refine wp_eq (st2 := [.int kk, .int kk]) rfl ?_
  refine q_icmp_eq 1910 dL_law_471 rfl (fun c => ?_) (fun c => absurd rfl c)
  refine wp_b (b2 := bb) (by omega) ?_
  exact k S2 hrl
set_option maxRecDepth 100000 in
set_option maxHeartbeats 4000000 in
theorem y_8 {g : G0} (hG : Gd g) {h : G1} {Q : State → Prop} {xs : Nat → Int32} {n i : Nat} (hX : Scr g h xs n) (hi : i + 5 ≤ n) {S : SS} (hR : RLaw S) {bb : Nat} (k : ∀ S2, RLaw S2 → wp g h mL_law (mixW g S2) [some (.ref 41), some (.ref 0), some (.ref 26), some (.ref 40), some (.int (nI i)), none, none, none] [] bb Q 1910) : wp g h mL_law (mixW g S) [some (.ref 41), some (.ref 0), some (.ref 26), some (.ref 40), some (.int (nI i)), none, none, none] [] (bb + 8) Q 476 := by
  obtain ⟨pw, hw, hwi⟩ := op_feedAmount hG hR (xs (i + 1))
  refine q_aload_n dL_law_476 rfl ?_
  refine q_aload_n dL_law_477 rfl ?_
  refine q_iload dL_law_478 rfl ?_
  refine q_iconst (v := 1) dL_law_480 rfl ?_
  refine q_iadd dL_law_481 ?_
  refine q_sld hX dL_law_482 (i + 1) (nI_add i 1) (by omega) ?_
  refine q_aload_n dL_law_483 rfl ?_
  refine q_callSH (ν := mL_feedAmount) dL_law_484 uw_654 vL_feedAmount hw rfl rfl (Nat.le_of_ble_eq_true rfl) (Nat.le_of_ble_eq_true rfl) (Nat.le_of_ble_eq_true rfl) (bb + 7) (show 1 + (bb + 7) ≤ bb + 8 by omega) (fun v w1 hv => ?_)
  obtain ⟨k1, S1, rfl, rfl, kk, rfl, pm, hm, hmi⟩ := hwi v w1 hv
  refine wp_eq (st2 := [.int kk]) rfl ?_
  refine q_ist5 dL_law_487 (Nat.le_of_ble_eq_true rfl) rfl ?_
  refine q_aload_n dL_law_489 rfl ?_
  refine q_aload_n dL_law_490 rfl ?_
  refine q_iload dL_law_491 rfl ?_
  refine q_iconst (v := 1) dL_law_493 rfl ?_
  refine q_iadd dL_law_494 ?_
  refine q_sld hX dL_law_495 (i + 1) (nI_add i 1) (by omega) ?_
  refine q_callVn (ν := mX10_feedAmount) dL_law_496 uw_1068 vX10_feedAmount hm (Nat.le_of_ble_eq_true rfl) rfl rfl rfl rfl (Nat.le_of_ble_eq_true rfl) (Nat.le_of_ble_eq_true rfl) (Nat.le_of_ble_eq_true rfl) (bb + 7) (show 0 + (bb + 7) ≤ bb + 7 by omega) (fun v w1 hv => ?_)
  obtain ⟨b1, S2, rfl, rfl, b2, rfl, hrf, hou, hrl⟩ := hmi v w1 hv
  refine wp_eq (st2 := [.int (b2)]) rfl ?_
  refine q_ist6 dL_law_499 (Nat.le_of_ble_eq_true rfl) rfl ?_
  refine q_aload_n dL_law_501 rfl ?_
  refine q_callVv (ν := mX10_thrown) dL_law_502 uw_988 vX10_thrown (c_X10_thrown hG S2) (Nat.le_of_ble_eq_true rfl) rfl rfl rfl rfl (Nat.le_of_ble_eq_true rfl) (Nat.le_of_ble_eq_true rfl) (Nat.le_of_ble_eq_true rfl) (bb + 7) (show 0 + (bb + 7) ≤ bb + 7 by omega) ?_
  refine q_iload dL_law_505 rfl ?_
  refine q_icmp_eq 512 dL_law_507 rfl (fun c => ?_) (fun c => absurd hrf c)
  refine q_iload dL_law_512 rfl ?_
  refine q_if_ne 529 dL_law_514 rfl (fun c2 => ?_) (fun c2 => ?_)
  · refine q_goto 1910 dL_law_529 rfl ?_
    refine wp_fg (L2 := [some (.ref 41), some (.ref 0), some (.ref 26), some (.ref 40), some (.int (nI i)), none, none, none]) ⟨rfl, rfl, rfl, rfl, rfl, trivial⟩ ?_
    refine wp_b (b2 := bb) (by omega) ?_
    exact k S2 hrl
  · refine q_aload_n dL_law_517 rfl ?_
    refine q_iconst (v := 0) dL_law_518 rfl ?_
    refine q_lald (f := z_OU S2) dL_law_519 (Nat.le_of_ble_eq_true rfl) rfl 0 rfl (Nat.le_of_ble_eq_true rfl) (Nat.le_of_ble_eq_true rfl) ?_
    refine q_iload dL_law_520 rfl ?_
    refine q_i2l dL_law_522 ?_
    refine q_lcmp_eq 529 dL_law_523 dL_law_524 rfl (fun c4 => ?_) (fun c4 => absurd (hou c2) c4)
    refine q_goto 1910 dL_law_529 rfl ?_
    refine wp_fg (L2 := [some (.ref 41), some (.ref 0), some (.ref 26), some (.ref 40), some (.int (nI i)), none, none, none]) ⟨rfl, rfl, rfl, rfl, rfl, trivial⟩ ?_
    refine wp_b (b2 := bb) (by omega) ?_
    exact k S2 hrl
set_option maxRecDepth 100000 in
set_option maxHeartbeats 4000000 in
theorem y_9 {g : G0} (hG : Gd g) {h : G1} {Q : State → Prop} {xs : Nat → Int32} {n i : Nat} (hX : Scr g h xs n) (hi : i + 5 ≤ n) {S : SS} (hR : RLaw S) {bb : Nat} (k : ∀ S2, RLaw S2 → wp g h mL_law (mixW g S2) [some (.ref 41), some (.ref 0), some (.ref 26), some (.ref 40), some (.int (nI i)), none, none, none] [] bb Q 1910) : wp g h mL_law (mixW g S) [some (.ref 41), some (.ref 0), some (.ref 26), some (.ref 40), some (.int (nI i)), none, none, none] [] (bb + 8) Q 532 := by
  obtain ⟨pw, hw, hwi⟩ := op_addCell hG hR (xs (i + 1)) (xs (i + 2)) (xs (i + 3)) (xs (i + 4))
  refine q_aload_n dL_law_532 rfl ?_
  refine q_aload_n dL_law_533 rfl ?_
  refine q_iload dL_law_534 rfl ?_
  refine q_iconst (v := 1) dL_law_536 rfl ?_
  refine q_iadd dL_law_537 ?_
  refine q_sld hX dL_law_538 (i + 1) (nI_add i 1) (by omega) ?_
  refine q_aload_n dL_law_539 rfl ?_
  refine q_iload dL_law_540 rfl ?_
  refine q_iconst (v := 2) dL_law_542 rfl ?_
  refine q_iadd dL_law_543 ?_
  refine q_sld hX dL_law_544 (i + 2) (nI_add i 2) (by omega) ?_
  refine q_aload_n dL_law_545 rfl ?_
  refine q_iload dL_law_546 rfl ?_
  refine q_iconst (v := 3) dL_law_548 rfl ?_
  refine q_iadd dL_law_549 ?_
  refine q_sld hX dL_law_550 (i + 3) (nI_add i 3) (by omega) ?_
  refine q_aload_n dL_law_551 rfl ?_
  refine q_iload dL_law_552 rfl ?_
  refine q_iconst (v := 4) dL_law_554 rfl ?_
  refine q_iadd dL_law_555 ?_
  refine q_sld hX dL_law_556 (i + 4) (nI_add i 4) (by omega) ?_
  refine q_aload_n dL_law_557 rfl ?_
  refine q_callSH (ν := mL_addCell) dL_law_558 uw_662 vL_addCell hw rfl rfl (Nat.le_of_ble_eq_true rfl) (Nat.le_of_ble_eq_true rfl) (Nat.le_of_ble_eq_true rfl) (bb + 3) (show 5 + (bb + 3) ≤ bb + 8 by omega) (fun v w1 hv => ?_)
  obtain ⟨k1, S1, rfl, rfl, kk, rfl, pm, hm, hmi⟩ := hwi v w1 hv
  refine wp_eq (st2 := [.int kk]) rfl ?_
  refine q_ist5 dL_law_561 (Nat.le_of_ble_eq_true rfl) rfl ?_
  refine q_aload_n dL_law_563 rfl ?_
  refine q_aload_n dL_law_564 rfl ?_
  refine q_iload dL_law_565 rfl ?_
  refine q_iconst (v := 1) dL_law_567 rfl ?_
  refine q_iadd dL_law_568 ?_
  refine q_sld hX dL_law_569 (i + 1) (nI_add i 1) (by omega) ?_
  refine q_aload_n dL_law_570 rfl ?_
  refine q_iload dL_law_571 rfl ?_
  refine q_iconst (v := 2) dL_law_573 rfl ?_
  refine q_iadd dL_law_574 ?_
  refine q_sld hX dL_law_575 (i + 2) (nI_add i 2) (by omega) ?_
  refine q_aload_n dL_law_576 rfl ?_
  refine q_iload dL_law_577 rfl ?_
  refine q_iconst (v := 3) dL_law_579 rfl ?_
  refine q_iadd dL_law_580 ?_
  refine q_sld hX dL_law_581 (i + 3) (nI_add i 3) (by omega) ?_
  refine q_aload_n dL_law_582 rfl ?_
  refine q_iload dL_law_583 rfl ?_
  refine q_iconst (v := 4) dL_law_585 rfl ?_
  refine q_iadd dL_law_586 ?_
  refine q_sld hX dL_law_587 (i + 4) (nI_add i 4) (by omega) ?_
  refine q_callVn (ν := mX10_addCell) dL_law_588 uw_1072 vX10_addCell hm (Nat.le_of_ble_eq_true rfl) rfl rfl rfl rfl (Nat.le_of_ble_eq_true rfl) (Nat.le_of_ble_eq_true rfl) (Nat.le_of_ble_eq_true rfl) (bb + 3) (show 0 + (bb + 3) ≤ bb + 3 by omega) (fun v w1 hv => ?_)
  obtain ⟨b1, S2, rfl, rfl, b2, rfl, hrf, hou, hrl⟩ := hmi v w1 hv
  refine wp_eq (st2 := [.int (b2)]) rfl ?_
  refine q_ist6 dL_law_591 (Nat.le_of_ble_eq_true rfl) rfl ?_
  refine q_aload_n dL_law_593 rfl ?_
  refine q_callVv (ν := mX10_thrown) dL_law_594 uw_988 vX10_thrown (c_X10_thrown hG S2) (Nat.le_of_ble_eq_true rfl) rfl rfl rfl rfl (Nat.le_of_ble_eq_true rfl) (Nat.le_of_ble_eq_true rfl) (Nat.le_of_ble_eq_true rfl) (bb + 3) (show 0 + (bb + 3) ≤ bb + 3 by omega) ?_
  refine q_iload dL_law_597 rfl ?_
  refine q_icmp_eq 604 dL_law_599 rfl (fun c => ?_) (fun c => absurd hrf c)
  refine q_iload dL_law_604 rfl ?_
  refine q_if_ne 621 dL_law_606 rfl (fun c2 => ?_) (fun c2 => ?_)
  · refine q_goto 1910 dL_law_621 rfl ?_
    refine wp_fg (L2 := [some (.ref 41), some (.ref 0), some (.ref 26), some (.ref 40), some (.int (nI i)), none, none, none]) ⟨rfl, rfl, rfl, rfl, rfl, trivial⟩ ?_
    refine wp_b (b2 := bb) (by omega) ?_
    exact k S2 hrl
  · refine q_aload_n dL_law_609 rfl ?_
    refine q_iconst (v := 0) dL_law_610 rfl ?_
    refine q_lald (f := z_OU S2) dL_law_611 (Nat.le_of_ble_eq_true rfl) rfl 0 rfl (Nat.le_of_ble_eq_true rfl) (Nat.le_of_ble_eq_true rfl) ?_
    refine q_iload dL_law_612 rfl ?_
    refine q_i2l dL_law_614 ?_
    refine q_lcmp_eq 621 dL_law_615 dL_law_616 rfl (fun c4 => ?_) (fun c4 => absurd (hou c2) c4)
    refine q_goto 1910 dL_law_621 rfl ?_
    refine wp_fg (L2 := [some (.ref 41), some (.ref 0), some (.ref 26), some (.ref 40), some (.int (nI i)), none, none, none]) ⟨rfl, rfl, rfl, rfl, rfl, trivial⟩ ?_
    refine wp_b (b2 := bb) (by omega) ?_
    exact k S2 hrl
set_option maxRecDepth 100000 in
set_option maxHeartbeats 4000000 in
theorem y_10 {g : G0} (hG : Gd g) {h : G1} {Q : State → Prop} {xs : Nat → Int32} {n i : Nat} (hX : Scr g h xs n) (hi : i + 5 ≤ n) {S : SS} (hR : RLaw S) {bb : Nat} (k : ∀ S2, RLaw S2 → wp g h mL_law (mixW g S2) [some (.ref 41), some (.ref 0), some (.ref 26), some (.ref 40), some (.int (nI i)), none, none, none] [] bb Q 1910) : wp g h mL_law (mixW g S) [some (.ref 41), some (.ref 0), some (.ref 26), some (.ref 40), some (.int (nI i)), none, none, none] [] (bb + 8) Q 624 := by
  obtain ⟨pw, hw, hwi⟩ := op_removeLastCell hG hR 
  refine q_aload_n dL_law_624 rfl ?_
  refine q_aload_n dL_law_625 rfl ?_
  refine q_callSH (ν := mL_removeLastCell) dL_law_626 uw_676 vL_removeLastCell hw rfl rfl (Nat.le_of_ble_eq_true rfl) (Nat.le_of_ble_eq_true rfl) (Nat.le_of_ble_eq_true rfl) (bb + 7) (show 1 + (bb + 7) ≤ bb + 8 by omega) (fun v w1 hv => ?_)
  obtain ⟨k1, S1, rfl, rfl, kk, rfl, pm, hm, hmi⟩ := hwi v w1 hv
  refine wp_eq (st2 := [.int kk]) rfl ?_
  refine q_ist5 dL_law_629 (Nat.le_of_ble_eq_true rfl) rfl ?_
  refine q_aload_n dL_law_631 rfl ?_
  refine q_callVn (ν := mX10_removeLastCell) dL_law_632 uw_1081 vX10_removeLastCell hm (Nat.le_of_ble_eq_true rfl) rfl rfl rfl rfl (Nat.le_of_ble_eq_true rfl) (Nat.le_of_ble_eq_true rfl) (Nat.le_of_ble_eq_true rfl) (bb + 7) (show 0 + (bb + 7) ≤ bb + 7 by omega) (fun v w1 hv => ?_)
  obtain ⟨b1, S2, rfl, rfl, b2, rfl, hrf, hou, hrl⟩ := hmi v w1 hv
  refine wp_eq (st2 := [.int (b2)]) rfl ?_
  refine q_ist6 dL_law_635 (Nat.le_of_ble_eq_true rfl) rfl ?_
  refine q_aload_n dL_law_637 rfl ?_
  refine q_callVv (ν := mX10_thrown) dL_law_638 uw_988 vX10_thrown (c_X10_thrown hG S2) (Nat.le_of_ble_eq_true rfl) rfl rfl rfl rfl (Nat.le_of_ble_eq_true rfl) (Nat.le_of_ble_eq_true rfl) (Nat.le_of_ble_eq_true rfl) (bb + 7) (show 0 + (bb + 7) ≤ bb + 7 by omega) ?_
  refine q_iload dL_law_641 rfl ?_
  refine q_icmp_eq 648 dL_law_643 rfl (fun c => ?_) (fun c => absurd hrf c)
  refine q_iload dL_law_648 rfl ?_
  refine q_if_ne 665 dL_law_650 rfl (fun c2 => ?_) (fun c2 => ?_)
  · refine q_goto 1910 dL_law_665 rfl ?_
    refine wp_fg (L2 := [some (.ref 41), some (.ref 0), some (.ref 26), some (.ref 40), some (.int (nI i)), none, none, none]) ⟨rfl, rfl, rfl, rfl, rfl, trivial⟩ ?_
    refine wp_b (b2 := bb) (by omega) ?_
    exact k S2 hrl
  · refine q_aload_n dL_law_653 rfl ?_
    refine q_iconst (v := 0) dL_law_654 rfl ?_
    refine q_lald (f := z_OU S2) dL_law_655 (Nat.le_of_ble_eq_true rfl) rfl 0 rfl (Nat.le_of_ble_eq_true rfl) (Nat.le_of_ble_eq_true rfl) ?_
    refine q_iload dL_law_656 rfl ?_
    refine q_i2l dL_law_658 ?_
    refine q_lcmp_eq 665 dL_law_659 dL_law_660 rfl (fun c4 => ?_) (fun c4 => absurd (hou c2) c4)
    refine q_goto 1910 dL_law_665 rfl ?_
    refine wp_fg (L2 := [some (.ref 41), some (.ref 0), some (.ref 26), some (.ref 40), some (.int (nI i)), none, none, none]) ⟨rfl, rfl, rfl, rfl, rfl, trivial⟩ ?_
    refine wp_b (b2 := bb) (by omega) ?_
    exact k S2 hrl
set_option maxRecDepth 100000 in
set_option maxHeartbeats 4000000 in
theorem y_11 {g : G0} (hG : Gd g) {h : G1} {Q : State → Prop} {xs : Nat → Int32} {n i : Nat} (hX : Scr g h xs n) (hi : i + 5 ≤ n) {S : SS} (hR : RLaw S) {bb : Nat} (k : ∀ S2, RLaw S2 → wp g h mL_law (mixW g S2) [some (.ref 41), some (.ref 0), some (.ref 26), some (.ref 40), some (.int (nI i)), none, none, none] [] bb Q 1910) : wp g h mL_law (mixW g S) [some (.ref 41), some (.ref 0), some (.ref 26), some (.ref 40), some (.int (nI i)), none, none, none] [] (bb + 8) Q 668 := by
  obtain ⟨pw, hw, hwi⟩ := op_setRecovery hG hR (xs (i + 1)) (xs (i + 2)) (xs (i + 3))
  refine q_aload_n dL_law_668 rfl ?_
  refine q_aload_n dL_law_669 rfl ?_
  refine q_iload dL_law_670 rfl ?_
  refine q_iconst (v := 1) dL_law_672 rfl ?_
  refine q_iadd dL_law_673 ?_
  refine q_sld hX dL_law_674 (i + 1) (nI_add i 1) (by omega) ?_
  refine q_aload_n dL_law_675 rfl ?_
  refine q_iload dL_law_676 rfl ?_
  refine q_iconst (v := 2) dL_law_678 rfl ?_
  refine q_iadd dL_law_679 ?_
  refine q_sld hX dL_law_680 (i + 2) (nI_add i 2) (by omega) ?_
  refine q_aload_n dL_law_681 rfl ?_
  refine q_iload dL_law_682 rfl ?_
  refine q_iconst (v := 3) dL_law_684 rfl ?_
  refine q_iadd dL_law_685 ?_
  refine q_sld hX dL_law_686 (i + 3) (nI_add i 3) (by omega) ?_
  refine q_aload_n dL_law_687 rfl ?_
  refine q_callSH (ν := mL_setRecovery) dL_law_688 uw_688 vL_setRecovery hw rfl rfl (Nat.le_of_ble_eq_true rfl) (Nat.le_of_ble_eq_true rfl) (Nat.le_of_ble_eq_true rfl) (bb + 5) (show 3 + (bb + 5) ≤ bb + 8 by omega) (fun v w1 hv => ?_)
  obtain ⟨k1, S1, rfl, rfl, kk, rfl, pm, hm, hmi⟩ := hwi v w1 hv
  refine wp_eq (st2 := [.int kk]) rfl ?_
  refine q_ist5 dL_law_691 (Nat.le_of_ble_eq_true rfl) rfl ?_
  refine q_aload_n dL_law_693 rfl ?_
  refine q_aload_n dL_law_694 rfl ?_
  refine q_iload dL_law_695 rfl ?_
  refine q_iconst (v := 1) dL_law_697 rfl ?_
  refine q_iadd dL_law_698 ?_
  refine q_sld hX dL_law_699 (i + 1) (nI_add i 1) (by omega) ?_
  refine q_aload_n dL_law_700 rfl ?_
  refine q_iload dL_law_701 rfl ?_
  refine q_iconst (v := 2) dL_law_703 rfl ?_
  refine q_iadd dL_law_704 ?_
  refine q_sld hX dL_law_705 (i + 2) (nI_add i 2) (by omega) ?_
  refine q_aload_n dL_law_706 rfl ?_
  refine q_iload dL_law_707 rfl ?_
  refine q_iconst (v := 3) dL_law_709 rfl ?_
  refine q_iadd dL_law_710 ?_
  refine q_sld hX dL_law_711 (i + 3) (nI_add i 3) (by omega) ?_
  refine q_callVn (ν := mX10_setRecovery) dL_law_712 uw_1085 vX10_setRecovery hm (Nat.le_of_ble_eq_true rfl) rfl rfl rfl rfl (Nat.le_of_ble_eq_true rfl) (Nat.le_of_ble_eq_true rfl) (Nat.le_of_ble_eq_true rfl) (bb + 5) (show 0 + (bb + 5) ≤ bb + 5 by omega) (fun v w1 hv => ?_)
  obtain ⟨b1, S2, rfl, rfl, b2, rfl, hrf, hou, hrl⟩ := hmi v w1 hv
  refine wp_eq (st2 := [.int (b2)]) rfl ?_
  refine q_ist6 dL_law_715 (Nat.le_of_ble_eq_true rfl) rfl ?_
  refine q_aload_n dL_law_717 rfl ?_
  refine q_callVv (ν := mX10_thrown) dL_law_718 uw_988 vX10_thrown (c_X10_thrown hG S2) (Nat.le_of_ble_eq_true rfl) rfl rfl rfl rfl (Nat.le_of_ble_eq_true rfl) (Nat.le_of_ble_eq_true rfl) (Nat.le_of_ble_eq_true rfl) (bb + 5) (show 0 + (bb + 5) ≤ bb + 5 by omega) ?_
  refine q_iload dL_law_721 rfl ?_
  refine q_icmp_eq 728 dL_law_723 rfl (fun c => ?_) (fun c => absurd hrf c)
  refine q_iload dL_law_728 rfl ?_
  refine q_if_ne 745 dL_law_730 rfl (fun c2 => ?_) (fun c2 => ?_)
  · refine q_goto 1910 dL_law_745 rfl ?_
    refine wp_fg (L2 := [some (.ref 41), some (.ref 0), some (.ref 26), some (.ref 40), some (.int (nI i)), none, none, none]) ⟨rfl, rfl, rfl, rfl, rfl, trivial⟩ ?_
    refine wp_b (b2 := bb) (by omega) ?_
    exact k S2 hrl
  · refine q_aload_n dL_law_733 rfl ?_
    refine q_iconst (v := 0) dL_law_734 rfl ?_
    refine q_lald (f := z_OU S2) dL_law_735 (Nat.le_of_ble_eq_true rfl) rfl 0 rfl (Nat.le_of_ble_eq_true rfl) (Nat.le_of_ble_eq_true rfl) ?_
    refine q_iload dL_law_736 rfl ?_
    refine q_i2l dL_law_738 ?_
    refine q_lcmp_eq 745 dL_law_739 dL_law_740 rfl (fun c4 => ?_) (fun c4 => absurd (hou c2) c4)
    refine q_goto 1910 dL_law_745 rfl ?_
    refine wp_fg (L2 := [some (.ref 41), some (.ref 0), some (.ref 26), some (.ref 40), some (.int (nI i)), none, none, none]) ⟨rfl, rfl, rfl, rfl, rfl, trivial⟩ ?_
    refine wp_b (b2 := bb) (by omega) ?_
    exact k S2 hrl
set_option maxRecDepth 100000 in
set_option maxHeartbeats 4000000 in
theorem y_12 {g : G0} (hG : Gd g) {h : G1} {Q : State → Prop} {xs : Nat → Int32} {n i : Nat} (hX : Scr g h xs n) (hi : i + 5 ≤ n) {S : SS} (hR : RLaw S) {bb : Nat} (k : ∀ S2, RLaw S2 → wp g h mL_law (mixW g S2) [some (.ref 41), some (.ref 0), some (.ref 26), some (.ref 40), some (.int (nI i)), none, none, none] [] bb Q 1910) : wp g h mL_law (mixW g S) [some (.ref 41), some (.ref 0), some (.ref 26), some (.ref 40), some (.int (nI i)), none, none, none] [] (bb + 8) Q 748 := by
  obtain ⟨pw, hw, hwi⟩ := op_setDestination hG hR (xs (i + 1)) (xs (i + 2)) (xs (i + 3))
  refine q_aload_n dL_law_748 rfl ?_
  refine q_aload_n dL_law_749 rfl ?_
  refine q_iload dL_law_750 rfl ?_
  refine q_iconst (v := 1) dL_law_752 rfl ?_
  refine q_iadd dL_law_753 ?_
  refine q_sld hX dL_law_754 (i + 1) (nI_add i 1) (by omega) ?_
  refine q_aload_n dL_law_755 rfl ?_
  refine q_iload dL_law_756 rfl ?_
  refine q_iconst (v := 2) dL_law_758 rfl ?_
  refine q_iadd dL_law_759 ?_
  refine q_sld hX dL_law_760 (i + 2) (nI_add i 2) (by omega) ?_
  refine q_aload_n dL_law_761 rfl ?_
  refine q_iload dL_law_762 rfl ?_
  refine q_iconst (v := 3) dL_law_764 rfl ?_
  refine q_iadd dL_law_765 ?_
  refine q_sld hX dL_law_766 (i + 3) (nI_add i 3) (by omega) ?_
  refine q_aload_n dL_law_767 rfl ?_
  refine q_callSH (ν := mL_setDestination) dL_law_768 uw_695 vL_setDestination hw rfl rfl (Nat.le_of_ble_eq_true rfl) (Nat.le_of_ble_eq_true rfl) (Nat.le_of_ble_eq_true rfl) (bb + 5) (show 3 + (bb + 5) ≤ bb + 8 by omega) (fun v w1 hv => ?_)
  obtain ⟨k1, S1, rfl, rfl, kk, rfl, pm, hm, hmi⟩ := hwi v w1 hv
  refine wp_eq (st2 := [.int kk]) rfl ?_
  refine q_ist5 dL_law_771 (Nat.le_of_ble_eq_true rfl) rfl ?_
  refine q_aload_n dL_law_773 rfl ?_
  refine q_aload_n dL_law_774 rfl ?_
  refine q_iload dL_law_775 rfl ?_
  refine q_iconst (v := 1) dL_law_777 rfl ?_
  refine q_iadd dL_law_778 ?_
  refine q_sld hX dL_law_779 (i + 1) (nI_add i 1) (by omega) ?_
  refine q_aload_n dL_law_780 rfl ?_
  refine q_iload dL_law_781 rfl ?_
  refine q_iconst (v := 2) dL_law_783 rfl ?_
  refine q_iadd dL_law_784 ?_
  refine q_sld hX dL_law_785 (i + 2) (nI_add i 2) (by omega) ?_
  refine q_aload_n dL_law_786 rfl ?_
  refine q_iload dL_law_787 rfl ?_
  refine q_iconst (v := 3) dL_law_789 rfl ?_
  refine q_iadd dL_law_790 ?_
  refine q_sld hX dL_law_791 (i + 3) (nI_add i 3) (by omega) ?_
  refine q_callVn (ν := mX10_setDestination) dL_law_792 uw_1089 vX10_setDestination hm (Nat.le_of_ble_eq_true rfl) rfl rfl rfl rfl (Nat.le_of_ble_eq_true rfl) (Nat.le_of_ble_eq_true rfl) (Nat.le_of_ble_eq_true rfl) (bb + 5) (show 0 + (bb + 5) ≤ bb + 5 by omega) (fun v w1 hv => ?_)
  obtain ⟨b1, S2, rfl, rfl, b2, rfl, hrf, hou, hrl⟩ := hmi v w1 hv
  refine wp_eq (st2 := [.int (b2)]) rfl ?_
  refine q_ist6 dL_law_795 (Nat.le_of_ble_eq_true rfl) rfl ?_
  refine q_aload_n dL_law_797 rfl ?_
  refine q_callVv (ν := mX10_thrown) dL_law_798 uw_988 vX10_thrown (c_X10_thrown hG S2) (Nat.le_of_ble_eq_true rfl) rfl rfl rfl rfl (Nat.le_of_ble_eq_true rfl) (Nat.le_of_ble_eq_true rfl) (Nat.le_of_ble_eq_true rfl) (bb + 5) (show 0 + (bb + 5) ≤ bb + 5 by omega) ?_
  refine q_iload dL_law_801 rfl ?_
  refine q_icmp_eq 808 dL_law_803 rfl (fun c => ?_) (fun c => absurd hrf c)
  refine q_iload dL_law_808 rfl ?_
  refine q_if_ne 825 dL_law_810 rfl (fun c2 => ?_) (fun c2 => ?_)
  · refine q_goto 1910 dL_law_825 rfl ?_
    refine wp_fg (L2 := [some (.ref 41), some (.ref 0), some (.ref 26), some (.ref 40), some (.int (nI i)), none, none, none]) ⟨rfl, rfl, rfl, rfl, rfl, trivial⟩ ?_
    refine wp_b (b2 := bb) (by omega) ?_
    exact k S2 hrl
  · refine q_aload_n dL_law_813 rfl ?_
    refine q_iconst (v := 0) dL_law_814 rfl ?_
    refine q_lald (f := z_OU S2) dL_law_815 (Nat.le_of_ble_eq_true rfl) rfl 0 rfl (Nat.le_of_ble_eq_true rfl) (Nat.le_of_ble_eq_true rfl) ?_
    refine q_iload dL_law_816 rfl ?_
    refine q_i2l dL_law_818 ?_
    refine q_lcmp_eq 825 dL_law_819 dL_law_820 rfl (fun c4 => ?_) (fun c4 => absurd (hou c2) c4)
    refine q_goto 1910 dL_law_825 rfl ?_
    refine wp_fg (L2 := [some (.ref 41), some (.ref 0), some (.ref 26), some (.ref 40), some (.int (nI i)), none, none, none]) ⟨rfl, rfl, rfl, rfl, rfl, trivial⟩ ?_
    refine wp_b (b2 := bb) (by omega) ?_
    exact k S2 hrl
set_option maxRecDepth 100000 in
set_option maxHeartbeats 4000000 in
theorem y_13 {g : G0} (hG : Gd g) {h : G1} {Q : State → Prop} {xs : Nat → Int32} {n i : Nat} (hX : Scr g h xs n) (hi : i + 5 ≤ n) {S : SS} (hR : RLaw S) {bb : Nat} (k : ∀ S2, RLaw S2 → wp g h mL_law (mixW g S2) [some (.ref 41), some (.ref 0), some (.ref 26), some (.ref 40), some (.int (nI i)), none, none, none] [] bb Q 1910) : wp g h mL_law (mixW g S) [some (.ref 41), some (.ref 0), some (.ref 26), some (.ref 40), some (.int (nI i)), none, none, none] [] (bb + 8) Q 828 := by
  obtain ⟨pw, hw, hwi⟩ := op_setFeed hG hR (xs (i + 1)) (xs (i + 2)) (xs (i + 3))
  refine q_aload_n dL_law_828 rfl ?_
  refine q_aload_n dL_law_829 rfl ?_
  refine q_iload dL_law_830 rfl ?_
  refine q_iconst (v := 1) dL_law_832 rfl ?_
  refine q_iadd dL_law_833 ?_
  refine q_sld hX dL_law_834 (i + 1) (nI_add i 1) (by omega) ?_
  refine q_aload_n dL_law_835 rfl ?_
  refine q_iload dL_law_836 rfl ?_
  refine q_iconst (v := 2) dL_law_838 rfl ?_
  refine q_iadd dL_law_839 ?_
  refine q_sld hX dL_law_840 (i + 2) (nI_add i 2) (by omega) ?_
  refine q_aload_n dL_law_841 rfl ?_
  refine q_iload dL_law_842 rfl ?_
  refine q_iconst (v := 3) dL_law_844 rfl ?_
  refine q_iadd dL_law_845 ?_
  refine q_sld hX dL_law_846 (i + 3) (nI_add i 3) (by omega) ?_
  refine q_aload_n dL_law_847 rfl ?_
  refine q_callSH (ν := mL_setFeed) dL_law_848 uw_703 vL_setFeed hw rfl rfl (Nat.le_of_ble_eq_true rfl) (Nat.le_of_ble_eq_true rfl) (Nat.le_of_ble_eq_true rfl) (bb + 5) (show 3 + (bb + 5) ≤ bb + 8 by omega) (fun v w1 hv => ?_)
  obtain ⟨k1, S1, rfl, rfl, kk, rfl, pm, hm, hmi⟩ := hwi v w1 hv
  refine wp_eq (st2 := [.int kk]) rfl ?_
  refine q_ist5 dL_law_851 (Nat.le_of_ble_eq_true rfl) rfl ?_
  refine q_aload_n dL_law_853 rfl ?_
  refine q_aload_n dL_law_854 rfl ?_
  refine q_iload dL_law_855 rfl ?_
  refine q_iconst (v := 1) dL_law_857 rfl ?_
  refine q_iadd dL_law_858 ?_
  refine q_sld hX dL_law_859 (i + 1) (nI_add i 1) (by omega) ?_
  refine q_aload_n dL_law_860 rfl ?_
  refine q_iload dL_law_861 rfl ?_
  refine q_iconst (v := 2) dL_law_863 rfl ?_
  refine q_iadd dL_law_864 ?_
  refine q_sld hX dL_law_865 (i + 2) (nI_add i 2) (by omega) ?_
  refine q_aload_n dL_law_866 rfl ?_
  refine q_iload dL_law_867 rfl ?_
  refine q_iconst (v := 3) dL_law_869 rfl ?_
  refine q_iadd dL_law_870 ?_
  refine q_sld hX dL_law_871 (i + 3) (nI_add i 3) (by omega) ?_
  refine q_callVn (ν := mX10_setFeed) dL_law_872 uw_1093 vX10_setFeed hm (Nat.le_of_ble_eq_true rfl) rfl rfl rfl rfl (Nat.le_of_ble_eq_true rfl) (Nat.le_of_ble_eq_true rfl) (Nat.le_of_ble_eq_true rfl) (bb + 5) (show 0 + (bb + 5) ≤ bb + 5 by omega) (fun v w1 hv => ?_)
  obtain ⟨b1, S2, rfl, rfl, b2, rfl, hrf, hou, hrl⟩ := hmi v w1 hv
  refine wp_eq (st2 := [.int (b2)]) rfl ?_
  refine q_ist6 dL_law_875 (Nat.le_of_ble_eq_true rfl) rfl ?_
  refine q_aload_n dL_law_877 rfl ?_
  refine q_callVv (ν := mX10_thrown) dL_law_878 uw_988 vX10_thrown (c_X10_thrown hG S2) (Nat.le_of_ble_eq_true rfl) rfl rfl rfl rfl (Nat.le_of_ble_eq_true rfl) (Nat.le_of_ble_eq_true rfl) (Nat.le_of_ble_eq_true rfl) (bb + 5) (show 0 + (bb + 5) ≤ bb + 5 by omega) ?_
  refine q_iload dL_law_881 rfl ?_
  refine q_icmp_eq 888 dL_law_883 rfl (fun c => ?_) (fun c => absurd hrf c)
  refine q_iload dL_law_888 rfl ?_
  refine q_if_ne 905 dL_law_890 rfl (fun c2 => ?_) (fun c2 => ?_)
  · refine q_goto 1910 dL_law_905 rfl ?_
    refine wp_fg (L2 := [some (.ref 41), some (.ref 0), some (.ref 26), some (.ref 40), some (.int (nI i)), none, none, none]) ⟨rfl, rfl, rfl, rfl, rfl, trivial⟩ ?_
    refine wp_b (b2 := bb) (by omega) ?_
    exact k S2 hrl
  · refine q_aload_n dL_law_893 rfl ?_
    refine q_iconst (v := 0) dL_law_894 rfl ?_
    refine q_lald (f := z_OU S2) dL_law_895 (Nat.le_of_ble_eq_true rfl) rfl 0 rfl (Nat.le_of_ble_eq_true rfl) (Nat.le_of_ble_eq_true rfl) ?_
    refine q_iload dL_law_896 rfl ?_
    refine q_i2l dL_law_898 ?_
    refine q_lcmp_eq 905 dL_law_899 dL_law_900 rfl (fun c4 => ?_) (fun c4 => absurd (hou c2) c4)
    refine q_goto 1910 dL_law_905 rfl ?_
    refine wp_fg (L2 := [some (.ref 41), some (.ref 0), some (.ref 26), some (.ref 40), some (.int (nI i)), none, none, none]) ⟨rfl, rfl, rfl, rfl, rfl, trivial⟩ ?_
    refine wp_b (b2 := bb) (by omega) ?_
    exact k S2 hrl
set_option maxRecDepth 100000 in
set_option maxHeartbeats 4000000 in
theorem y_14 {g : G0} (hG : Gd g) {h : G1} {Q : State → Prop} {xs : Nat → Int32} {n i : Nat} (hX : Scr g h xs n) (hi : i + 5 ≤ n) {S : SS} (hR : RLaw S) {bb : Nat} (k : ∀ S2, RLaw S2 → wp g h mL_law (mixW g S2) [some (.ref 41), some (.ref 0), some (.ref 26), some (.ref 40), some (.int (nI i)), none, none, none] [] bb Q 1910) : wp g h mL_law (mixW g S) [some (.ref 41), some (.ref 0), some (.ref 26), some (.ref 40), some (.int (nI i)), none, none, none] [] (bb + 8) Q 908 := by
  obtain ⟨pw, hw, hwi⟩ := op_step hG hR (xs (i + 1))
  refine q_aload_n dL_law_908 rfl ?_
  refine q_aload_n dL_law_909 rfl ?_
  refine q_iload dL_law_910 rfl ?_
  refine q_iconst (v := 1) dL_law_912 rfl ?_
  refine q_iadd dL_law_913 ?_
  refine q_sld hX dL_law_914 (i + 1) (nI_add i 1) (by omega) ?_
  refine q_aload_n dL_law_915 rfl ?_
  refine q_callSH (ν := mL_step) dL_law_916 uw_711 vL_step hw rfl rfl (Nat.le_of_ble_eq_true rfl) (Nat.le_of_ble_eq_true rfl) (Nat.le_of_ble_eq_true rfl) (bb + 7) (show 1 + (bb + 7) ≤ bb + 8 by omega) (fun v w1 hv => ?_)
  obtain ⟨k1, S1, rfl, rfl, kk, rfl, pm, hm, hmi⟩ := hwi v w1 hv
  refine wp_eq (st2 := [.int kk]) rfl ?_
  refine q_ist5 dL_law_919 (Nat.le_of_ble_eq_true rfl) rfl ?_
  refine q_aload_n dL_law_921 rfl ?_
  refine q_aload_n dL_law_922 rfl ?_
  refine q_iload dL_law_923 rfl ?_
  refine q_iconst (v := 1) dL_law_925 rfl ?_
  refine q_iadd dL_law_926 ?_
  refine q_sld hX dL_law_927 (i + 1) (nI_add i 1) (by omega) ?_
  refine q_callVn (ν := mX10_step) dL_law_928 uw_1098 vX10_step hm (Nat.le_of_ble_eq_true rfl) rfl rfl rfl rfl (Nat.le_of_ble_eq_true rfl) (Nat.le_of_ble_eq_true rfl) (Nat.le_of_ble_eq_true rfl) (bb + 7) (show 0 + (bb + 7) ≤ bb + 7 by omega) (fun v w1 hv => ?_)
  obtain ⟨b1, S2, rfl, rfl, b2, rfl, hrf, hou, hrl⟩ := hmi v w1 hv
  refine wp_eq (st2 := [.int (b2)]) rfl ?_
  refine q_ist6 dL_law_931 (Nat.le_of_ble_eq_true rfl) rfl ?_
  refine q_aload_n dL_law_933 rfl ?_
  refine q_callVv (ν := mX10_thrown) dL_law_934 uw_988 vX10_thrown (c_X10_thrown hG S2) (Nat.le_of_ble_eq_true rfl) rfl rfl rfl rfl (Nat.le_of_ble_eq_true rfl) (Nat.le_of_ble_eq_true rfl) (Nat.le_of_ble_eq_true rfl) (bb + 7) (show 0 + (bb + 7) ≤ bb + 7 by omega) ?_
  refine q_iload dL_law_937 rfl ?_
  refine q_icmp_eq 944 dL_law_939 rfl (fun c => ?_) (fun c => absurd hrf c)
  refine q_iload dL_law_944 rfl ?_
  refine q_if_ne 961 dL_law_946 rfl (fun c2 => ?_) (fun c2 => ?_)
  · refine q_goto 1910 dL_law_961 rfl ?_
    refine wp_fg (L2 := [some (.ref 41), some (.ref 0), some (.ref 26), some (.ref 40), some (.int (nI i)), none, none, none]) ⟨rfl, rfl, rfl, rfl, rfl, trivial⟩ ?_
    refine wp_b (b2 := bb) (by omega) ?_
    exact k S2 hrl
  · refine q_aload_n dL_law_949 rfl ?_
    refine q_iconst (v := 0) dL_law_950 rfl ?_
    refine q_lald (f := z_OU S2) dL_law_951 (Nat.le_of_ble_eq_true rfl) rfl 0 rfl (Nat.le_of_ble_eq_true rfl) (Nat.le_of_ble_eq_true rfl) ?_
    refine q_iload dL_law_952 rfl ?_
    refine q_i2l dL_law_954 ?_
    refine q_lcmp_eq 961 dL_law_955 dL_law_956 rfl (fun c4 => ?_) (fun c4 => absurd (hou c2) c4)
    refine q_goto 1910 dL_law_961 rfl ?_
    refine wp_fg (L2 := [some (.ref 41), some (.ref 0), some (.ref 26), some (.ref 40), some (.int (nI i)), none, none, none]) ⟨rfl, rfl, rfl, rfl, rfl, trivial⟩ ?_
    refine wp_b (b2 := bb) (by omega) ?_
    exact k S2 hrl
set_option maxRecDepth 100000 in
set_option maxHeartbeats 4000000 in
theorem y_15 {g : G0} (hG : Gd g) {h : G1} {Q : State → Prop} {xs : Nat → Int32} {n i : Nat} (hX : Scr g h xs n) (hi : i + 5 ≤ n) {S : SS} (hR : RLaw S) {bb : Nat} (k : ∀ S2, RLaw S2 → wp g h mL_law (mixW g S2) [some (.ref 41), some (.ref 0), some (.ref 26), some (.ref 40), some (.int (nI i)), none, none, none] [] bb Q 1910) : wp g h mL_law (mixW g S) [some (.ref 41), some (.ref 0), some (.ref 26), some (.ref 40), some (.int (nI i)), none, none, none] [] (bb + 8) Q 964 := by
  obtain ⟨pw, hw, hwi⟩ := op_drain hG hR
  refine q_aload_n dL_law_964 rfl ?_
  refine q_callVn (ν := mX9_drain) dL_law_965 uw_292 vX9_drain hw (Nat.le_of_ble_eq_true rfl) rfl rfl rfl rfl (Nat.le_of_ble_eq_true rfl) (Nat.le_of_ble_eq_true rfl) (Nat.le_of_ble_eq_true rfl) (bb + 8) (show 0 + (bb + 8) ≤ bb + 8 by omega) (fun v w1 hv => ?_)
  obtain ⟨k1, S1, rfl, rfl, kk, rfl, pm, hm, hmi⟩ := hwi v w1 hv
  refine wp_eq (st2 := [.int kk]) rfl ?_
  refine q_aload_n dL_law_968 rfl ?_
  refine q_callVn (ν := mX10_drain) dL_law_969 uw_1112 vX10_drain hm (Nat.le_of_ble_eq_true rfl) rfl rfl rfl rfl (Nat.le_of_ble_eq_true rfl) (Nat.le_of_ble_eq_true rfl) (Nat.le_of_ble_eq_true rfl) (bb + 8) (show 0 + (bb + 8) ≤ bb + 8 by omega) (fun v w1 hv => ?_)
  obtain ⟨b1, S2, rfl, rfl, rfl, hrl⟩ := hmi v w1 hv
  refine wp_eq (st2 := [.int kk, .int kk]) rfl ?_
  refine q_icmp_eq 1910 dL_law_972 rfl (fun c => ?_) (fun c => absurd rfl c)
  refine wp_b (b2 := bb) (by omega) ?_
  exact k S2 hrl
set_option maxRecDepth 100000 in
set_option maxHeartbeats 4000000 in
theorem y_16 {g : G0} (hG : Gd g) {h : G1} {Q : State → Prop} {xs : Nat → Int32} {n i : Nat} (hX : Scr g h xs n) (hi : i + 5 ≤ n) {S : SS} (hR : RLaw S) {bb : Nat} (k : ∀ S2, RLaw S2 → wp g h mL_law (mixW g S2) [some (.ref 41), some (.ref 0), some (.ref 26), some (.ref 40), some (.int (nI i)), none, none, none] [] bb Q 1910) : wp g h mL_law (mixW g S) [some (.ref 41), some (.ref 0), some (.ref 26), some (.ref 40), some (.int (nI i)), none, none, none] [] (bb + 8) Q 977 := by
  obtain ⟨pw, hw, hwi⟩ := op_undo hG hR 
  refine q_aload_n dL_law_977 rfl ?_
  refine q_aload_n dL_law_978 rfl ?_
  refine q_callSH (ν := mL_undo) dL_law_979 uw_743 vL_undo hw rfl rfl (Nat.le_of_ble_eq_true rfl) (Nat.le_of_ble_eq_true rfl) (Nat.le_of_ble_eq_true rfl) (bb + 7) (show 1 + (bb + 7) ≤ bb + 8 by omega) (fun v w1 hv => ?_)
  obtain ⟨k1, S1, rfl, rfl, kk, rfl, pm, hm, hmi⟩ := hwi v w1 hv
  refine wp_eq (st2 := [.int kk]) rfl ?_
  refine q_ist5 dL_law_982 (Nat.le_of_ble_eq_true rfl) rfl ?_
  refine q_aload_n dL_law_984 rfl ?_
  refine q_callVn (ν := mX10_undo) dL_law_985 uw_1116 vX10_undo hm (Nat.le_of_ble_eq_true rfl) rfl rfl rfl rfl (Nat.le_of_ble_eq_true rfl) (Nat.le_of_ble_eq_true rfl) (Nat.le_of_ble_eq_true rfl) (bb + 7) (show 0 + (bb + 7) ≤ bb + 7 by omega) (fun v w1 hv => ?_)
  obtain ⟨b1, S2, rfl, rfl, b2, rfl, hrf, hou, hrl⟩ := hmi v w1 hv
  refine wp_eq (st2 := [.int (b2)]) rfl ?_
  refine q_ist6 dL_law_988 (Nat.le_of_ble_eq_true rfl) rfl ?_
  refine q_aload_n dL_law_990 rfl ?_
  refine q_callVv (ν := mX10_thrown) dL_law_991 uw_988 vX10_thrown (c_X10_thrown hG S2) (Nat.le_of_ble_eq_true rfl) rfl rfl rfl rfl (Nat.le_of_ble_eq_true rfl) (Nat.le_of_ble_eq_true rfl) (Nat.le_of_ble_eq_true rfl) (bb + 7) (show 0 + (bb + 7) ≤ bb + 7 by omega) ?_
  refine q_iload dL_law_994 rfl ?_
  refine q_icmp_eq 1001 dL_law_996 rfl (fun c => ?_) (fun c => absurd hrf c)
  refine q_iload dL_law_1001 rfl ?_
  refine q_if_ne 1018 dL_law_1003 rfl (fun c2 => ?_) (fun c2 => ?_)
  · refine q_goto 1910 dL_law_1018 rfl ?_
    refine wp_fg (L2 := [some (.ref 41), some (.ref 0), some (.ref 26), some (.ref 40), some (.int (nI i)), none, none, none]) ⟨rfl, rfl, rfl, rfl, rfl, trivial⟩ ?_
    refine wp_b (b2 := bb) (by omega) ?_
    exact k S2 hrl
  · refine q_aload_n dL_law_1006 rfl ?_
    refine q_iconst (v := 0) dL_law_1007 rfl ?_
    refine q_lald (f := z_OU S2) dL_law_1008 (Nat.le_of_ble_eq_true rfl) rfl 0 rfl (Nat.le_of_ble_eq_true rfl) (Nat.le_of_ble_eq_true rfl) ?_
    refine q_iload dL_law_1009 rfl ?_
    refine q_i2l dL_law_1011 ?_
    refine q_lcmp_eq 1018 dL_law_1012 dL_law_1013 rfl (fun c4 => ?_) (fun c4 => absurd (hou c2) c4)
    refine q_goto 1910 dL_law_1018 rfl ?_
    refine wp_fg (L2 := [some (.ref 41), some (.ref 0), some (.ref 26), some (.ref 40), some (.int (nI i)), none, none, none]) ⟨rfl, rfl, rfl, rfl, rfl, trivial⟩ ?_
    refine wp_b (b2 := bb) (by omega) ?_
    exact k S2 hrl
set_option maxRecDepth 100000 in
set_option maxHeartbeats 4000000 in
theorem y_17 {g : G0} (hG : Gd g) {h : G1} {Q : State → Prop} {xs : Nat → Int32} {n i : Nat} (hX : Scr g h xs n) (hi : i + 5 ≤ n) {S : SS} (hR : RLaw S) {bb : Nat} (k : ∀ S2, RLaw S2 → wp g h mL_law (mixW g S2) [some (.ref 41), some (.ref 0), some (.ref 26), some (.ref 40), some (.int (nI i)), none, none, none] [] bb Q 1910) : wp g h mL_law (mixW g S) [some (.ref 41), some (.ref 0), some (.ref 26), some (.ref 40), some (.int (nI i)), none, none, none] [] (bb + 8) Q 1021 := by
  obtain ⟨pw, hw, hwi⟩ := op_content hG hR (xs (i + 1)) (xs (i + 2))
  refine q_aload_n dL_law_1021 rfl ?_
  refine q_aload_n dL_law_1022 rfl ?_
  refine q_iload dL_law_1023 rfl ?_
  refine q_iconst (v := 1) dL_law_1025 rfl ?_
  refine q_iadd dL_law_1026 ?_
  refine q_sld hX dL_law_1027 (i + 1) (nI_add i 1) (by omega) ?_
  refine q_aload_n dL_law_1028 rfl ?_
  refine q_iload dL_law_1029 rfl ?_
  refine q_iconst (v := 2) dL_law_1031 rfl ?_
  refine q_iadd dL_law_1032 ?_
  refine q_sld hX dL_law_1033 (i + 2) (nI_add i 2) (by omega) ?_
  refine q_aload_n dL_law_1034 rfl ?_
  refine q_callSH (ν := mL_content) dL_law_1035 uw_763 vL_content hw rfl rfl (Nat.le_of_ble_eq_true rfl) (Nat.le_of_ble_eq_true rfl) (Nat.le_of_ble_eq_true rfl) (bb + 6) (show 2 + (bb + 6) ≤ bb + 8 by omega) (fun v w1 hv => ?_)
  obtain ⟨k1, S1, rfl, rfl, kk, rfl, pm, hm, hmi⟩ := hwi v w1 hv
  refine wp_eq (st2 := [.int kk]) rfl ?_
  refine q_ist5 dL_law_1038 (Nat.le_of_ble_eq_true rfl) rfl ?_
  refine q_aload_n dL_law_1040 rfl ?_
  refine q_aload_n dL_law_1041 rfl ?_
  refine q_iload dL_law_1042 rfl ?_
  refine q_iconst (v := 1) dL_law_1044 rfl ?_
  refine q_iadd dL_law_1045 ?_
  refine q_sld hX dL_law_1046 (i + 1) (nI_add i 1) (by omega) ?_
  refine q_aload_n dL_law_1047 rfl ?_
  refine q_iload dL_law_1048 rfl ?_
  refine q_iconst (v := 2) dL_law_1050 rfl ?_
  refine q_iadd dL_law_1051 ?_
  refine q_sld hX dL_law_1052 (i + 2) (nI_add i 2) (by omega) ?_
  refine q_callVn (ν := mX10_content) dL_law_1053 uw_1120 vX10_content hm (Nat.le_of_ble_eq_true rfl) rfl rfl rfl rfl (Nat.le_of_ble_eq_true rfl) (Nat.le_of_ble_eq_true rfl) (Nat.le_of_ble_eq_true rfl) (bb + 6) (show 0 + (bb + 6) ≤ bb + 6 by omega) (fun v w1 hv => ?_)
  obtain ⟨b1, S2, rfl, rfl, b2, rfl, hrf, hou, hrl⟩ := hmi v w1 hv
  refine wp_eq (st2 := [.int (b2)]) rfl ?_
  refine q_ist6 dL_law_1056 (Nat.le_of_ble_eq_true rfl) rfl ?_
  refine q_aload_n dL_law_1058 rfl ?_
  refine q_callVv (ν := mX10_thrown) dL_law_1059 uw_988 vX10_thrown (c_X10_thrown hG S2) (Nat.le_of_ble_eq_true rfl) rfl rfl rfl rfl (Nat.le_of_ble_eq_true rfl) (Nat.le_of_ble_eq_true rfl) (Nat.le_of_ble_eq_true rfl) (bb + 6) (show 0 + (bb + 6) ≤ bb + 6 by omega) ?_
  refine q_iload dL_law_1062 rfl ?_
  refine q_icmp_eq 1069 dL_law_1064 rfl (fun c => ?_) (fun c => absurd hrf c)
  refine q_iload dL_law_1069 rfl ?_
  refine q_if_ne 1086 dL_law_1071 rfl (fun c2 => ?_) (fun c2 => ?_)
  · refine q_goto 1910 dL_law_1086 rfl ?_
    refine wp_fg (L2 := [some (.ref 41), some (.ref 0), some (.ref 26), some (.ref 40), some (.int (nI i)), none, none, none]) ⟨rfl, rfl, rfl, rfl, rfl, trivial⟩ ?_
    refine wp_b (b2 := bb) (by omega) ?_
    exact k S2 hrl
  · refine q_aload_n dL_law_1074 rfl ?_
    refine q_iconst (v := 0) dL_law_1075 rfl ?_
    refine q_lald (f := z_OU S2) dL_law_1076 (Nat.le_of_ble_eq_true rfl) rfl 0 rfl (Nat.le_of_ble_eq_true rfl) (Nat.le_of_ble_eq_true rfl) ?_
    refine q_iload dL_law_1077 rfl ?_
    refine q_i2l dL_law_1079 ?_
    refine q_lcmp_eq 1086 dL_law_1080 dL_law_1081 rfl (fun c4 => ?_) (fun c4 => absurd (hou c2) c4)
    refine q_goto 1910 dL_law_1086 rfl ?_
    refine wp_fg (L2 := [some (.ref 41), some (.ref 0), some (.ref 26), some (.ref 40), some (.int (nI i)), none, none, none]) ⟨rfl, rfl, rfl, rfl, rfl, trivial⟩ ?_
    refine wp_b (b2 := bb) (by omega) ?_
    exact k S2 hrl
set_option maxRecDepth 100000 in
set_option maxHeartbeats 4000000 in
theorem y_18 {g : G0} (hG : Gd g) {h : G1} {Q : State → Prop} {xs : Nat → Int32} {n i : Nat} (hX : Scr g h xs n) (hi : i + 5 ≤ n) {S : SS} (hR : RLaw S) {bb : Nat} (k : ∀ S2, RLaw S2 → wp g h mL_law (mixW g S2) [some (.ref 41), some (.ref 0), some (.ref 26), some (.ref 40), some (.int (nI i)), none, none, none] [] bb Q 1910) : wp g h mL_law (mixW g S) [some (.ref 41), some (.ref 0), some (.ref 26), some (.ref 40), some (.int (nI i)), none, none, none] [] (bb + 8) Q 1089 := by
  obtain ⟨pw, hw, hwi⟩ := op_amount hG hR (xs (i + 1)) (xs (i + 2))
  refine q_aload_n dL_law_1089 rfl ?_
  refine q_aload_n dL_law_1090 rfl ?_
  refine q_iload dL_law_1091 rfl ?_
  refine q_iconst (v := 1) dL_law_1093 rfl ?_
  refine q_iadd dL_law_1094 ?_
  refine q_sld hX dL_law_1095 (i + 1) (nI_add i 1) (by omega) ?_
  refine q_aload_n dL_law_1096 rfl ?_
  refine q_iload dL_law_1097 rfl ?_
  refine q_iconst (v := 2) dL_law_1099 rfl ?_
  refine q_iadd dL_law_1100 ?_
  refine q_sld hX dL_law_1101 (i + 2) (nI_add i 2) (by omega) ?_
  refine q_aload_n dL_law_1102 rfl ?_
  refine q_callSH (ν := mL_amount) dL_law_1103 uw_771 vL_amount hw rfl rfl (Nat.le_of_ble_eq_true rfl) (Nat.le_of_ble_eq_true rfl) (Nat.le_of_ble_eq_true rfl) (bb + 6) (show 2 + (bb + 6) ≤ bb + 8 by omega) (fun v w1 hv => ?_)
  obtain ⟨k1, S1, rfl, rfl, kk, rfl, pm, hm, hmi⟩ := hwi v w1 hv
  refine wp_eq (st2 := [.int kk]) rfl ?_
  refine q_ist5 dL_law_1106 (Nat.le_of_ble_eq_true rfl) rfl ?_
  refine q_aload_n dL_law_1108 rfl ?_
  refine q_aload_n dL_law_1109 rfl ?_
  refine q_iload dL_law_1110 rfl ?_
  refine q_iconst (v := 1) dL_law_1112 rfl ?_
  refine q_iadd dL_law_1113 ?_
  refine q_sld hX dL_law_1114 (i + 1) (nI_add i 1) (by omega) ?_
  refine q_aload_n dL_law_1115 rfl ?_
  refine q_iload dL_law_1116 rfl ?_
  refine q_iconst (v := 2) dL_law_1118 rfl ?_
  refine q_iadd dL_law_1119 ?_
  refine q_sld hX dL_law_1120 (i + 2) (nI_add i 2) (by omega) ?_
  refine q_callVn (ν := mX10_amount) dL_law_1121 uw_1124 vX10_amount hm (Nat.le_of_ble_eq_true rfl) rfl rfl rfl rfl (Nat.le_of_ble_eq_true rfl) (Nat.le_of_ble_eq_true rfl) (Nat.le_of_ble_eq_true rfl) (bb + 6) (show 0 + (bb + 6) ≤ bb + 6 by omega) (fun v w1 hv => ?_)
  obtain ⟨b1, S2, rfl, rfl, b2, rfl, hrf, hou, hrl⟩ := hmi v w1 hv
  refine wp_eq (st2 := [.int (b2)]) rfl ?_
  refine q_ist6 dL_law_1124 (Nat.le_of_ble_eq_true rfl) rfl ?_
  refine q_aload_n dL_law_1126 rfl ?_
  refine q_callVv (ν := mX10_thrown) dL_law_1127 uw_988 vX10_thrown (c_X10_thrown hG S2) (Nat.le_of_ble_eq_true rfl) rfl rfl rfl rfl (Nat.le_of_ble_eq_true rfl) (Nat.le_of_ble_eq_true rfl) (Nat.le_of_ble_eq_true rfl) (bb + 6) (show 0 + (bb + 6) ≤ bb + 6 by omega) ?_
  refine q_iload dL_law_1130 rfl ?_
  refine q_icmp_eq 1137 dL_law_1132 rfl (fun c => ?_) (fun c => absurd hrf c)
  refine q_iload dL_law_1137 rfl ?_
  refine q_if_ne 1154 dL_law_1139 rfl (fun c2 => ?_) (fun c2 => ?_)
  · refine q_goto 1910 dL_law_1154 rfl ?_
    refine wp_fg (L2 := [some (.ref 41), some (.ref 0), some (.ref 26), some (.ref 40), some (.int (nI i)), none, none, none]) ⟨rfl, rfl, rfl, rfl, rfl, trivial⟩ ?_
    refine wp_b (b2 := bb) (by omega) ?_
    exact k S2 hrl
  · refine q_aload_n dL_law_1142 rfl ?_
    refine q_iconst (v := 0) dL_law_1143 rfl ?_
    refine q_lald (f := z_OU S2) dL_law_1144 (Nat.le_of_ble_eq_true rfl) rfl 0 rfl (Nat.le_of_ble_eq_true rfl) (Nat.le_of_ble_eq_true rfl) ?_
    refine q_iload dL_law_1145 rfl ?_
    refine q_i2l dL_law_1147 ?_
    refine q_lcmp_eq 1154 dL_law_1148 dL_law_1149 rfl (fun c4 => ?_) (fun c4 => absurd (hou c2) c4)
    refine q_goto 1910 dL_law_1154 rfl ?_
    refine wp_fg (L2 := [some (.ref 41), some (.ref 0), some (.ref 26), some (.ref 40), some (.int (nI i)), none, none, none]) ⟨rfl, rfl, rfl, rfl, rfl, trivial⟩ ?_
    refine wp_b (b2 := bb) (by omega) ?_
    exact k S2 hrl
set_option maxRecDepth 100000 in
set_option maxHeartbeats 4000000 in
theorem y_19 {g : G0} (hG : Gd g) {h : G1} {Q : State → Prop} {xs : Nat → Int32} {n i : Nat} (hX : Scr g h xs n) (hi : i + 5 ≤ n) {S : SS} (hR : RLaw S) {bb : Nat} (k : ∀ S2, RLaw S2 → wp g h mL_law (mixW g S2) [some (.ref 41), some (.ref 0), some (.ref 26), some (.ref 40), some (.int (nI i)), none, none, none] [] bb Q 1910) : wp g h mL_law (mixW g S) [some (.ref 41), some (.ref 0), some (.ref 26), some (.ref 40), some (.int (nI i)), none, none, none] [] (bb + 8) Q 1157 := by
  obtain ⟨pw, hw, hwi⟩ := op_hasSteadyState hG hR
  refine q_aload_n dL_law_1157 rfl ?_
  refine q_callVn (ν := mX9_hasSteadyState) dL_law_1158 uw_322 vX9_hasSteadyState hw (Nat.le_of_ble_eq_true rfl) rfl rfl rfl rfl (Nat.le_of_ble_eq_true rfl) (Nat.le_of_ble_eq_true rfl) (Nat.le_of_ble_eq_true rfl) (bb + 8) (show 0 + (bb + 8) ≤ bb + 8 by omega) (fun v w1 hv => ?_)
  obtain ⟨k1, S1, rfl, rfl, kk, rfl, pm, hm, hmi⟩ := hwi v w1 hv
  refine wp_eq (st2 := [.int kk]) rfl ?_
  refine q_aload_n dL_law_1161 rfl ?_
  refine q_callVn (ν := mX10_hasSteadyState) dL_law_1162 uw_1128 vX10_hasSteadyState hm (Nat.le_of_ble_eq_true rfl) rfl rfl rfl rfl (Nat.le_of_ble_eq_true rfl) (Nat.le_of_ble_eq_true rfl) (Nat.le_of_ble_eq_true rfl) (bb + 8) (show 0 + (bb + 8) ≤ bb + 8 by omega) (fun v w1 hv => ?_)
  obtain ⟨b1, S2, rfl, rfl, rfl, hrl⟩ := hmi v w1 hv
  refine wp_eq (st2 := [.int kk, .int kk]) rfl ?_
  refine q_icmp_eq 1910 dL_law_1165 rfl (fun c => ?_) (fun c => absurd rfl c)
  refine wp_b (b2 := bb) (by omega) ?_
  exact k S2 hrl
set_option maxRecDepth 100000 in
set_option maxHeartbeats 4000000 in
theorem y_20 {g : G0} (hG : Gd g) {h : G1} {Q : State → Prop} {xs : Nat → Int32} {n i : Nat} (hX : Scr g h xs n) (hi : i + 5 ≤ n) {S : SS} (hR : RLaw S) {bb : Nat} (k : ∀ S2, RLaw S2 → wp g h mL_law (mixW g S2) [some (.ref 41), some (.ref 0), some (.ref 26), some (.ref 40), some (.int (nI i)), none, none, none] [] bb Q 1910) : wp g h mL_law (mixW g S) [some (.ref 41), some (.ref 0), some (.ref 26), some (.ref 40), some (.int (nI i)), none, none, none] [] (bb + 8) Q 1170 := by
  obtain ⟨pw, hw, hwi⟩ := op_flowNumerator hG hR (xs (i + 1)) (xs (i + 2))
  refine q_aload_n dL_law_1170 rfl ?_
  refine q_aload_n dL_law_1171 rfl ?_
  refine q_iload dL_law_1172 rfl ?_
  refine q_iconst (v := 1) dL_law_1174 rfl ?_
  refine q_iadd dL_law_1175 ?_
  refine q_sld hX dL_law_1176 (i + 1) (nI_add i 1) (by omega) ?_
  refine q_aload_n dL_law_1177 rfl ?_
  refine q_iload dL_law_1178 rfl ?_
  refine q_iconst (v := 2) dL_law_1180 rfl ?_
  refine q_iadd dL_law_1181 ?_
  refine q_sld hX dL_law_1182 (i + 2) (nI_add i 2) (by omega) ?_
  refine q_aload_n dL_law_1183 rfl ?_
  refine q_callSH (ν := mL_flowNumerator) dL_law_1184 uw_779 vL_flowNumerator hw rfl rfl (Nat.le_of_ble_eq_true rfl) (Nat.le_of_ble_eq_true rfl) (Nat.le_of_ble_eq_true rfl) (bb + 5) (show 3 + (bb + 5) ≤ bb + 8 by omega) (fun v w1 hv => ?_)
  obtain ⟨k1, S1, rfl, rfl, kk, rfl, pm, hm, hmi⟩ := hwi v w1 hv
  refine wp_eq (st2 := [.int kk]) rfl ?_
  refine q_ist5 dL_law_1187 (Nat.le_of_ble_eq_true rfl) rfl ?_
  refine q_aload_n dL_law_1189 rfl ?_
  refine q_aload_n dL_law_1190 rfl ?_
  refine q_iload dL_law_1191 rfl ?_
  refine q_iconst (v := 1) dL_law_1193 rfl ?_
  refine q_iadd dL_law_1194 ?_
  refine q_sld hX dL_law_1195 (i + 1) (nI_add i 1) (by omega) ?_
  refine q_aload_n dL_law_1196 rfl ?_
  refine q_iload dL_law_1197 rfl ?_
  refine q_iconst (v := 2) dL_law_1199 rfl ?_
  refine q_iadd dL_law_1200 ?_
  refine q_sld hX dL_law_1201 (i + 2) (nI_add i 2) (by omega) ?_
  refine q_callVn (ν := mX10_flowNumerator) dL_law_1202 uw_1141 vX10_flowNumerator hm (Nat.le_of_ble_eq_true rfl) rfl rfl rfl rfl (Nat.le_of_ble_eq_true rfl) (Nat.le_of_ble_eq_true rfl) (Nat.le_of_ble_eq_true rfl) (bb + 5) (show 0 + (bb + 5) ≤ bb + 5 by omega) (fun v w1 hv => ?_)
  obtain ⟨b1, S2, rfl, rfl, b2, rfl, hrf, hou, hrl⟩ := hmi v w1 hv
  refine wp_eq (st2 := [.long (b2)]) rfl ?_
  refine q_lst6 dL_law_1205 (Nat.le_of_ble_eq_true rfl) rfl ?_
  refine q_aload_n dL_law_1207 rfl ?_
  refine q_callVv (ν := mX10_thrown) dL_law_1208 uw_988 vX10_thrown (c_X10_thrown hG S2) (Nat.le_of_ble_eq_true rfl) rfl rfl rfl rfl (Nat.le_of_ble_eq_true rfl) (Nat.le_of_ble_eq_true rfl) (Nat.le_of_ble_eq_true rfl) (bb + 5) (show 0 + (bb + 5) ≤ bb + 5 by omega) ?_
  refine q_iload dL_law_1211 rfl ?_
  refine q_icmp_eq 1218 dL_law_1213 rfl (fun c => ?_) (fun c => absurd hrf c)
  refine q_iload dL_law_1218 rfl ?_
  refine q_if_ne 1234 dL_law_1220 rfl (fun c2 => ?_) (fun c2 => ?_)
  · refine q_goto 1910 dL_law_1234 rfl ?_
    refine wp_fg (L2 := [some (.ref 41), some (.ref 0), some (.ref 26), some (.ref 40), some (.int (nI i)), none, none, none]) ⟨rfl, rfl, rfl, rfl, rfl, trivial⟩ ?_
    refine wp_b (b2 := bb) (by omega) ?_
    exact k S2 hrl
  · refine q_aload_n dL_law_1223 rfl ?_
    refine q_iconst (v := 0) dL_law_1224 rfl ?_
    refine q_lald (f := z_OU S2) dL_law_1225 (Nat.le_of_ble_eq_true rfl) rfl 0 rfl (Nat.le_of_ble_eq_true rfl) (Nat.le_of_ble_eq_true rfl) ?_
    refine q_lload dL_law_1226 rfl ?_
    refine q_lcmp_eq 1234 dL_law_1228 dL_law_1229 rfl (fun c4 => ?_) (fun c4 => absurd (hou c2) c4)
    refine q_goto 1910 dL_law_1234 rfl ?_
    refine wp_fg (L2 := [some (.ref 41), some (.ref 0), some (.ref 26), some (.ref 40), some (.int (nI i)), none, none, none]) ⟨rfl, rfl, rfl, rfl, rfl, trivial⟩ ?_
    refine wp_b (b2 := bb) (by omega) ?_
    exact k S2 hrl
set_option maxRecDepth 100000 in
set_option maxHeartbeats 4000000 in
theorem y_21 {g : G0} (hG : Gd g) {h : G1} {Q : State → Prop} {xs : Nat → Int32} {n i : Nat} (hX : Scr g h xs n) (hi : i + 5 ≤ n) {S : SS} (hR : RLaw S) {bb : Nat} (k : ∀ S2, RLaw S2 → wp g h mL_law (mixW g S2) [some (.ref 41), some (.ref 0), some (.ref 26), some (.ref 40), some (.int (nI i)), none, none, none] [] bb Q 1910) : wp g h mL_law (mixW g S) [some (.ref 41), some (.ref 0), some (.ref 26), some (.ref 40), some (.int (nI i)), none, none, none] [] (bb + 8) Q 1237 := by
  obtain ⟨pw, hw, hwi⟩ := op_flowDenominator hG hR (xs (i + 1)) (xs (i + 2))
  refine q_aload_n dL_law_1237 rfl ?_
  refine q_aload_n dL_law_1238 rfl ?_
  refine q_iload dL_law_1239 rfl ?_
  refine q_iconst (v := 1) dL_law_1241 rfl ?_
  refine q_iadd dL_law_1242 ?_
  refine q_sld hX dL_law_1243 (i + 1) (nI_add i 1) (by omega) ?_
  refine q_aload_n dL_law_1244 rfl ?_
  refine q_iload dL_law_1245 rfl ?_
  refine q_iconst (v := 2) dL_law_1247 rfl ?_
  refine q_iadd dL_law_1248 ?_
  refine q_sld hX dL_law_1249 (i + 2) (nI_add i 2) (by omega) ?_
  refine q_aload_n dL_law_1250 rfl ?_
  refine q_callSH (ν := mL_flowDenominator) dL_law_1251 uw_804 vL_flowDenominator hw rfl rfl (Nat.le_of_ble_eq_true rfl) (Nat.le_of_ble_eq_true rfl) (Nat.le_of_ble_eq_true rfl) (bb + 5) (show 3 + (bb + 5) ≤ bb + 8 by omega) (fun v w1 hv => ?_)
  obtain ⟨k1, S1, rfl, rfl, kk, rfl, pm, hm, hmi⟩ := hwi v w1 hv
  refine wp_eq (st2 := [.int kk]) rfl ?_
  refine q_ist5 dL_law_1254 (Nat.le_of_ble_eq_true rfl) rfl ?_
  refine q_aload_n dL_law_1256 rfl ?_
  refine q_aload_n dL_law_1257 rfl ?_
  refine q_iload dL_law_1258 rfl ?_
  refine q_iconst (v := 1) dL_law_1260 rfl ?_
  refine q_iadd dL_law_1261 ?_
  refine q_sld hX dL_law_1262 (i + 1) (nI_add i 1) (by omega) ?_
  refine q_aload_n dL_law_1263 rfl ?_
  refine q_iload dL_law_1264 rfl ?_
  refine q_iconst (v := 2) dL_law_1266 rfl ?_
  refine q_iadd dL_law_1267 ?_
  refine q_sld hX dL_law_1268 (i + 2) (nI_add i 2) (by omega) ?_
  refine q_callVn (ν := mX10_flowDenominator) dL_law_1269 uw_1167 vX10_flowDenominator hm (Nat.le_of_ble_eq_true rfl) rfl rfl rfl rfl (Nat.le_of_ble_eq_true rfl) (Nat.le_of_ble_eq_true rfl) (Nat.le_of_ble_eq_true rfl) (bb + 5) (show 0 + (bb + 5) ≤ bb + 5 by omega) (fun v w1 hv => ?_)
  obtain ⟨b1, S2, rfl, rfl, b2, rfl, hrf, hou, hrl⟩ := hmi v w1 hv
  refine wp_eq (st2 := [.long (b2)]) rfl ?_
  refine q_lst6 dL_law_1272 (Nat.le_of_ble_eq_true rfl) rfl ?_
  refine q_aload_n dL_law_1274 rfl ?_
  refine q_callVv (ν := mX10_thrown) dL_law_1275 uw_988 vX10_thrown (c_X10_thrown hG S2) (Nat.le_of_ble_eq_true rfl) rfl rfl rfl rfl (Nat.le_of_ble_eq_true rfl) (Nat.le_of_ble_eq_true rfl) (Nat.le_of_ble_eq_true rfl) (bb + 5) (show 0 + (bb + 5) ≤ bb + 5 by omega) ?_
  refine q_iload dL_law_1278 rfl ?_
  refine q_icmp_eq 1285 dL_law_1280 rfl (fun c => ?_) (fun c => absurd hrf c)
  refine q_iload dL_law_1285 rfl ?_
  refine q_if_ne 1301 dL_law_1287 rfl (fun c2 => ?_) (fun c2 => ?_)
  · refine q_goto 1910 dL_law_1301 rfl ?_
    refine wp_fg (L2 := [some (.ref 41), some (.ref 0), some (.ref 26), some (.ref 40), some (.int (nI i)), none, none, none]) ⟨rfl, rfl, rfl, rfl, rfl, trivial⟩ ?_
    refine wp_b (b2 := bb) (by omega) ?_
    exact k S2 hrl
  · refine q_aload_n dL_law_1290 rfl ?_
    refine q_iconst (v := 0) dL_law_1291 rfl ?_
    refine q_lald (f := z_OU S2) dL_law_1292 (Nat.le_of_ble_eq_true rfl) rfl 0 rfl (Nat.le_of_ble_eq_true rfl) (Nat.le_of_ble_eq_true rfl) ?_
    refine q_lload dL_law_1293 rfl ?_
    refine q_lcmp_eq 1301 dL_law_1295 dL_law_1296 rfl (fun c4 => ?_) (fun c4 => absurd (hou c2) c4)
    refine q_goto 1910 dL_law_1301 rfl ?_
    refine wp_fg (L2 := [some (.ref 41), some (.ref 0), some (.ref 26), some (.ref 40), some (.int (nI i)), none, none, none]) ⟨rfl, rfl, rfl, rfl, rfl, trivial⟩ ?_
    refine wp_b (b2 := bb) (by omega) ?_
    exact k S2 hrl
set_option maxRecDepth 100000 in
set_option maxHeartbeats 4000000 in
theorem y_22 {g : G0} (hG : Gd g) {h : G1} {Q : State → Prop} {xs : Nat → Int32} {n i : Nat} (hX : Scr g h xs n) (hi : i + 5 ≤ n) {S : SS} (hR : RLaw S) {bb : Nat} (k : ∀ S2, RLaw S2 → wp g h mL_law (mixW g S2) [some (.ref 41), some (.ref 0), some (.ref 26), some (.ref 40), some (.int (nI i)), none, none, none] [] bb Q 1910) : wp g h mL_law (mixW g S) [some (.ref 41), some (.ref 0), some (.ref 26), some (.ref 40), some (.int (nI i)), none, none, none] [] (bb + 8) Q 1304 := by
  obtain ⟨pw, hw, hwi⟩ := op_totalRecovery hG hR 
  refine q_aload_n dL_law_1304 rfl ?_
  refine q_aload_n dL_law_1305 rfl ?_
  refine q_callSH (ν := mL_totalRecovery) dL_law_1306 uw_815 vL_totalRecovery hw rfl rfl (Nat.le_of_ble_eq_true rfl) (Nat.le_of_ble_eq_true rfl) (Nat.le_of_ble_eq_true rfl) (bb + 7) (show 1 + (bb + 7) ≤ bb + 8 by omega) (fun v w1 hv => ?_)
  obtain ⟨k1, S1, rfl, rfl, kk, rfl, pm, hm, hmi⟩ := hwi v w1 hv
  refine wp_eq (st2 := [.int kk]) rfl ?_
  refine q_ist5 dL_law_1309 (Nat.le_of_ble_eq_true rfl) rfl ?_
  refine q_aload_n dL_law_1311 rfl ?_
  refine q_callVn (ν := mX10_totalRecovery) dL_law_1312 uw_1171 vX10_totalRecovery hm (Nat.le_of_ble_eq_true rfl) rfl rfl rfl rfl (Nat.le_of_ble_eq_true rfl) (Nat.le_of_ble_eq_true rfl) (Nat.le_of_ble_eq_true rfl) (bb + 7) (show 0 + (bb + 7) ≤ bb + 7 by omega) (fun v w1 hv => ?_)
  obtain ⟨b1, S2, rfl, rfl, b2, rfl, hrf, hou, hrl⟩ := hmi v w1 hv
  refine wp_eq (st2 := [.int (b2)]) rfl ?_
  refine q_ist6 dL_law_1315 (Nat.le_of_ble_eq_true rfl) rfl ?_
  refine q_aload_n dL_law_1317 rfl ?_
  refine q_callVv (ν := mX10_thrown) dL_law_1318 uw_988 vX10_thrown (c_X10_thrown hG S2) (Nat.le_of_ble_eq_true rfl) rfl rfl rfl rfl (Nat.le_of_ble_eq_true rfl) (Nat.le_of_ble_eq_true rfl) (Nat.le_of_ble_eq_true rfl) (bb + 7) (show 0 + (bb + 7) ≤ bb + 7 by omega) ?_
  refine q_iload dL_law_1321 rfl ?_
  refine q_icmp_eq 1328 dL_law_1323 rfl (fun c => ?_) (fun c => absurd hrf c)
  refine q_iload dL_law_1328 rfl ?_
  refine q_if_ne 1345 dL_law_1330 rfl (fun c2 => ?_) (fun c2 => ?_)
  · refine q_goto 1910 dL_law_1345 rfl ?_
    refine wp_fg (L2 := [some (.ref 41), some (.ref 0), some (.ref 26), some (.ref 40), some (.int (nI i)), none, none, none]) ⟨rfl, rfl, rfl, rfl, rfl, trivial⟩ ?_
    refine wp_b (b2 := bb) (by omega) ?_
    exact k S2 hrl
  · refine q_aload_n dL_law_1333 rfl ?_
    refine q_iconst (v := 0) dL_law_1334 rfl ?_
    refine q_lald (f := z_OU S2) dL_law_1335 (Nat.le_of_ble_eq_true rfl) rfl 0 rfl (Nat.le_of_ble_eq_true rfl) (Nat.le_of_ble_eq_true rfl) ?_
    refine q_iload dL_law_1336 rfl ?_
    refine q_i2l dL_law_1338 ?_
    refine q_lcmp_eq 1345 dL_law_1339 dL_law_1340 rfl (fun c4 => ?_) (fun c4 => absurd (hou c2) c4)
    refine q_goto 1910 dL_law_1345 rfl ?_
    refine wp_fg (L2 := [some (.ref 41), some (.ref 0), some (.ref 26), some (.ref 40), some (.int (nI i)), none, none, none]) ⟨rfl, rfl, rfl, rfl, rfl, trivial⟩ ?_
    refine wp_b (b2 := bb) (by omega) ?_
    exact k S2 hrl
set_option maxRecDepth 100000 in
set_option maxHeartbeats 4000000 in
theorem y_23 {g : G0} (hG : Gd g) {h : G1} {Q : State → Prop} {xs : Nat → Int32} {n i : Nat} (hX : Scr g h xs n) (hi : i + 5 ≤ n) {S : SS} (hR : RLaw S) {bb : Nat} (k : ∀ S2, RLaw S2 → wp g h mL_law (mixW g S2) [some (.ref 41), some (.ref 0), some (.ref 26), some (.ref 40), some (.int (nI i)), none, none, none] [] bb Q 1910) : wp g h mL_law (mixW g S) [some (.ref 41), some (.ref 0), some (.ref 26), some (.ref 40), some (.int (nI i)), none, none, none] [] (bb + 8) Q 1348 := by
  obtain ⟨pw, hw, hwi⟩ := op_grade hG hR 
  refine q_aload_n dL_law_1348 rfl ?_
  refine q_aload_n dL_law_1349 rfl ?_
  refine q_callSH (ν := mL_grade) dL_law_1350 uw_827 vL_grade hw rfl rfl (Nat.le_of_ble_eq_true rfl) (Nat.le_of_ble_eq_true rfl) (Nat.le_of_ble_eq_true rfl) (bb + 7) (show 1 + (bb + 7) ≤ bb + 8 by omega) (fun v w1 hv => ?_)
  obtain ⟨k1, S1, rfl, rfl, kk, rfl, pm, hm, hmi⟩ := hwi v w1 hv
  refine wp_eq (st2 := [.int kk]) rfl ?_
  refine q_ist5 dL_law_1353 (Nat.le_of_ble_eq_true rfl) rfl ?_
  refine q_aload_n dL_law_1355 rfl ?_
  refine q_callVn (ν := mX10_grade) dL_law_1356 uw_1183 vX10_grade hm (Nat.le_of_ble_eq_true rfl) rfl rfl rfl rfl (Nat.le_of_ble_eq_true rfl) (Nat.le_of_ble_eq_true rfl) (Nat.le_of_ble_eq_true rfl) (bb + 7) (show 0 + (bb + 7) ≤ bb + 7 by omega) (fun v w1 hv => ?_)
  obtain ⟨b1, S2, rfl, rfl, b2, rfl, hrf, hou, hrl⟩ := hmi v w1 hv
  refine wp_eq (st2 := [.int (b2)]) rfl ?_
  refine q_ist6 dL_law_1359 (Nat.le_of_ble_eq_true rfl) rfl ?_
  refine q_aload_n dL_law_1361 rfl ?_
  refine q_callVv (ν := mX10_thrown) dL_law_1362 uw_988 vX10_thrown (c_X10_thrown hG S2) (Nat.le_of_ble_eq_true rfl) rfl rfl rfl rfl (Nat.le_of_ble_eq_true rfl) (Nat.le_of_ble_eq_true rfl) (Nat.le_of_ble_eq_true rfl) (bb + 7) (show 0 + (bb + 7) ≤ bb + 7 by omega) ?_
  refine q_iload dL_law_1365 rfl ?_
  refine q_icmp_eq 1372 dL_law_1367 rfl (fun c => ?_) (fun c => absurd hrf c)
  refine q_iload dL_law_1372 rfl ?_
  refine q_if_ne 1389 dL_law_1374 rfl (fun c2 => ?_) (fun c2 => ?_)
  · refine q_goto 1910 dL_law_1389 rfl ?_
    refine wp_fg (L2 := [some (.ref 41), some (.ref 0), some (.ref 26), some (.ref 40), some (.int (nI i)), none, none, none]) ⟨rfl, rfl, rfl, rfl, rfl, trivial⟩ ?_
    refine wp_b (b2 := bb) (by omega) ?_
    exact k S2 hrl
  · refine q_aload_n dL_law_1377 rfl ?_
    refine q_iconst (v := 0) dL_law_1378 rfl ?_
    refine q_lald (f := z_OU S2) dL_law_1379 (Nat.le_of_ble_eq_true rfl) rfl 0 rfl (Nat.le_of_ble_eq_true rfl) (Nat.le_of_ble_eq_true rfl) ?_
    refine q_iload dL_law_1380 rfl ?_
    refine q_i2l dL_law_1382 ?_
    refine q_lcmp_eq 1389 dL_law_1383 dL_law_1384 rfl (fun c4 => ?_) (fun c4 => absurd (hou c2) c4)
    refine q_goto 1910 dL_law_1389 rfl ?_
    refine wp_fg (L2 := [some (.ref 41), some (.ref 0), some (.ref 26), some (.ref 40), some (.int (nI i)), none, none, none]) ⟨rfl, rfl, rfl, rfl, rfl, trivial⟩ ?_
    refine wp_b (b2 := bb) (by omega) ?_
    exact k S2 hrl
set_option maxRecDepth 100000 in
set_option maxHeartbeats 4000000 in
theorem y_24 {g : G0} (hG : Gd g) {h : G1} {Q : State → Prop} {xs : Nat → Int32} {n i : Nat} (hX : Scr g h xs n) (hi : i + 5 ≤ n) {S : SS} (hR : RLaw S) {bb : Nat} (k : ∀ S2, RLaw S2 → wp g h mL_law (mixW g S2) [some (.ref 41), some (.ref 0), some (.ref 26), some (.ref 40), some (.int (nI i)), none, none, none] [] bb Q 1910) : wp g h mL_law (mixW g S) [some (.ref 41), some (.ref 0), some (.ref 26), some (.ref 40), some (.int (nI i)), none, none, none] [] (bb + 8) Q 1392 := by
  obtain ⟨pw, hw, hwi⟩ := op_isInLoop hG hR (xs (i + 1))
  refine q_aload_n dL_law_1392 rfl ?_
  refine q_aload_n dL_law_1393 rfl ?_
  refine q_iload dL_law_1394 rfl ?_
  refine q_iconst (v := 1) dL_law_1396 rfl ?_
  refine q_iadd dL_law_1397 ?_
  refine q_sld hX dL_law_1398 (i + 1) (nI_add i 1) (by omega) ?_
  refine q_aload_n dL_law_1399 rfl ?_
  refine q_callSH (ν := mL_isInLoop) dL_law_1400 uw_842 vL_isInLoop hw rfl rfl (Nat.le_of_ble_eq_true rfl) (Nat.le_of_ble_eq_true rfl) (Nat.le_of_ble_eq_true rfl) (bb + 7) (show 1 + (bb + 7) ≤ bb + 8 by omega) (fun v w1 hv => ?_)
  obtain ⟨k1, S1, rfl, rfl, kk, rfl, pm, hm, hmi⟩ := hwi v w1 hv
  refine wp_eq (st2 := [.int kk]) rfl ?_
  refine q_ist5 dL_law_1403 (Nat.le_of_ble_eq_true rfl) rfl ?_
  refine q_aload_n dL_law_1405 rfl ?_
  refine q_aload_n dL_law_1406 rfl ?_
  refine q_iload dL_law_1407 rfl ?_
  refine q_iconst (v := 1) dL_law_1409 rfl ?_
  refine q_iadd dL_law_1410 ?_
  refine q_sld hX dL_law_1411 (i + 1) (nI_add i 1) (by omega) ?_
  refine q_callVn (ν := mX10_isInLoop) dL_law_1412 uw_1192 vX10_isInLoop hm (Nat.le_of_ble_eq_true rfl) rfl rfl rfl rfl (Nat.le_of_ble_eq_true rfl) (Nat.le_of_ble_eq_true rfl) (Nat.le_of_ble_eq_true rfl) (bb + 7) (show 0 + (bb + 7) ≤ bb + 7 by omega) (fun v w1 hv => ?_)
  obtain ⟨b1, S2, rfl, rfl, b2, rfl, hrf, hou, hrl⟩ := hmi v w1 hv
  refine wp_eq (st2 := [.int (b2)]) rfl ?_
  refine q_ist6 dL_law_1415 (Nat.le_of_ble_eq_true rfl) rfl ?_
  refine q_aload_n dL_law_1417 rfl ?_
  refine q_callVv (ν := mX10_thrown) dL_law_1418 uw_988 vX10_thrown (c_X10_thrown hG S2) (Nat.le_of_ble_eq_true rfl) rfl rfl rfl rfl (Nat.le_of_ble_eq_true rfl) (Nat.le_of_ble_eq_true rfl) (Nat.le_of_ble_eq_true rfl) (bb + 7) (show 0 + (bb + 7) ≤ bb + 7 by omega) ?_
  refine q_iload dL_law_1421 rfl ?_
  refine q_icmp_eq 1428 dL_law_1423 rfl (fun c => ?_) (fun c => absurd hrf c)
  refine q_iload dL_law_1428 rfl ?_
  refine q_if_ne 1452 dL_law_1430 rfl (fun c2 => ?_) (fun c2 => ?_)
  · refine q_goto 1910 dL_law_1452 rfl ?_
    refine wp_fg (L2 := [some (.ref 41), some (.ref 0), some (.ref 26), some (.ref 40), some (.int (nI i)), none, none, none]) ⟨rfl, rfl, rfl, rfl, rfl, trivial⟩ ?_
    refine wp_b (b2 := bb) (by omega) ?_
    exact k S2 hrl
  · refine q_aload_n dL_law_1433 rfl ?_
    refine q_iconst (v := 0) dL_law_1434 rfl ?_
    refine q_lald (f := z_OU S2) dL_law_1435 (Nat.le_of_ble_eq_true rfl) rfl 0 rfl (Nat.le_of_ble_eq_true rfl) (Nat.le_of_ble_eq_true rfl) ?_
    refine q_iload dL_law_1436 rfl ?_
    refine q_if_eq 1445 dL_law_1438 rfl (fun c3 => ?_) (fun c3 => ?_)
    · refine q_lconst (v := 0) dL_law_1445 rfl ?_
      refine q_lcmp_eq 1452 dL_law_1446 dL_law_1447 rfl (fun c4 => ?_) (fun c4 => absurd ((hou c2).trans (if_pos c3)) c4)
      refine q_goto 1910 dL_law_1452 rfl ?_
      refine wp_fg (L2 := [some (.ref 41), some (.ref 0), some (.ref 26), some (.ref 40), some (.int (nI i)), none, none, none]) ⟨rfl, rfl, rfl, rfl, rfl, trivial⟩ ?_
      refine wp_b (b2 := bb) (by omega) ?_
      exact k S2 hrl
    · refine q_lconst (v := 1) dL_law_1441 rfl ?_
      refine q_goto 1446 dL_law_1442 rfl ?_
      refine q_lcmp_eq 1452 dL_law_1446 dL_law_1447 rfl (fun c4 => ?_) (fun c4 => absurd ((hou c2).trans (if_neg c3)) c4)
      refine q_goto 1910 dL_law_1452 rfl ?_
      refine wp_fg (L2 := [some (.ref 41), some (.ref 0), some (.ref 26), some (.ref 40), some (.int (nI i)), none, none, none]) ⟨rfl, rfl, rfl, rfl, rfl, trivial⟩ ?_
      refine wp_b (b2 := bb) (by omega) ?_
      exact k S2 hrl
set_option maxRecDepth 100000 in
set_option maxHeartbeats 4000000 in
theorem y_25 {g : G0} (hG : Gd g) {h : G1} {Q : State → Prop} {xs : Nat → Int32} {n i : Nat} (hX : Scr g h xs n) (hi : i + 5 ≤ n) {S : SS} (hR : RLaw S) {bb : Nat} (k : ∀ S2, RLaw S2 → wp g h mL_law (mixW g S2) [some (.ref 41), some (.ref 0), some (.ref 26), some (.ref 40), some (.int (nI i)), none, none, none] [] bb Q 1910) : wp g h mL_law (mixW g S) [some (.ref 41), some (.ref 0), some (.ref 26), some (.ref 40), some (.int (nI i)), none, none, none] [] (bb + 8) Q 1455 := by
  obtain ⟨pw, hw, hwi⟩ := op_loopCount hG hR
  refine q_aload_n dL_law_1455 rfl ?_
  refine q_callVn (ν := mX9_loopCount) dL_law_1456 uw_397 vX9_loopCount hw (Nat.le_of_ble_eq_true rfl) rfl rfl rfl rfl (Nat.le_of_ble_eq_true rfl) (Nat.le_of_ble_eq_true rfl) (Nat.le_of_ble_eq_true rfl) (bb + 8) (show 0 + (bb + 8) ≤ bb + 8 by omega) (fun v w1 hv => ?_)
  obtain ⟨k1, S1, rfl, rfl, kk, rfl, pm, hm, hmi⟩ := hwi v w1 hv
  refine wp_eq (st2 := [.int kk]) rfl ?_
  refine q_aload_n dL_law_1459 rfl ?_
  refine q_callVn (ν := mX10_loopCount) dL_law_1460 uw_1204 vX10_loopCount hm (Nat.le_of_ble_eq_true rfl) rfl rfl rfl rfl (Nat.le_of_ble_eq_true rfl) (Nat.le_of_ble_eq_true rfl) (Nat.le_of_ble_eq_true rfl) (bb + 8) (show 0 + (bb + 8) ≤ bb + 8 by omega) (fun v w1 hv => ?_)
  obtain ⟨b1, S2, rfl, rfl, rfl, hrl⟩ := hmi v w1 hv
  refine wp_eq (st2 := [.int kk, .int kk]) rfl ?_
  refine q_icmp_eq 1910 dL_law_1463 rfl (fun c => ?_) (fun c => absurd rfl c)
  refine wp_b (b2 := bb) (by omega) ?_
  exact k S2 hrl
set_option maxRecDepth 100000 in
set_option maxHeartbeats 4000000 in
theorem y_26 {g : G0} (hG : Gd g) {h : G1} {Q : State → Prop} {xs : Nat → Int32} {n i : Nat} (hX : Scr g h xs n) (hi : i + 5 ≤ n) {S : SS} (hR : RLaw S) {bb : Nat} (k : ∀ S2, RLaw S2 → wp g h mL_law (mixW g S2) [some (.ref 41), some (.ref 0), some (.ref 26), some (.ref 40), some (.int (nI i)), none, none, none] [] bb Q 1910) : wp g h mL_law (mixW g S) [some (.ref 41), some (.ref 0), some (.ref 26), some (.ref 40), some (.int (nI i)), none, none, none] [] (bb + 8) Q 1468 := by
  obtain ⟨pw, hw, hwi⟩ := op_bestImprovement hG hR
  refine q_aload_n dL_law_1468 rfl ?_
  refine q_callVn (ν := mX9_bestImprovement) dL_law_1469 uw_431 vX9_bestImprovement hw (Nat.le_of_ble_eq_true rfl) rfl rfl rfl rfl (Nat.le_of_ble_eq_true rfl) (Nat.le_of_ble_eq_true rfl) (Nat.le_of_ble_eq_true rfl) (bb + 8) (show 0 + (bb + 8) ≤ bb + 8 by omega) (fun v w1 hv => ?_)
  obtain ⟨k1, S1, rfl, rfl, kk, rfl, pm, hm, hmi⟩ := hwi v w1 hv
  refine wp_eq (st2 := [.int kk]) rfl ?_
  refine q_aload_n dL_law_1472 rfl ?_
  refine q_callVn (ν := mX10_bestImprovement) dL_law_1473 uw_1208 vX10_bestImprovement hm (Nat.le_of_ble_eq_true rfl) rfl rfl rfl rfl (Nat.le_of_ble_eq_true rfl) (Nat.le_of_ble_eq_true rfl) (Nat.le_of_ble_eq_true rfl) (bb + 8) (show 0 + (bb + 8) ≤ bb + 8 by omega) (fun v w1 hv => ?_)
  obtain ⟨b1, S2, rfl, rfl, rfl, hrl⟩ := hmi v w1 hv
  refine wp_eq (st2 := [.int kk, .int kk]) rfl ?_
  refine q_icmp_eq 1910 dL_law_1476 rfl (fun c => ?_) (fun c => absurd rfl c)
  refine wp_b (b2 := bb) (by omega) ?_
  exact k S2 hrl
set_option maxRecDepth 100000 in
set_option maxHeartbeats 4000000 in
theorem y_27 {g : G0} (hG : Gd g) {h : G1} {Q : State → Prop} {xs : Nat → Int32} {n i : Nat} (hX : Scr g h xs n) (hi : i + 5 ≤ n) {S : SS} (hR : RLaw S) {bb : Nat} (k : ∀ S2, RLaw S2 → wp g h mL_law (mixW g S2) [some (.ref 41), some (.ref 0), some (.ref 26), some (.ref 40), some (.int (nI i)), none, none, none] [] bb Q 1910) : wp g h mL_law (mixW g S) [some (.ref 41), some (.ref 0), some (.ref 26), some (.ref 40), some (.int (nI i)), none, none, none] [] (bb + 8) Q 1481 := by
  obtain ⟨pw, hw, hwi⟩ := op_bestShutdown hG hR
  refine q_aload_n dL_law_1481 rfl ?_
  refine q_callVn (ν := mX9_bestShutdown) dL_law_1482 uw_463 vX9_bestShutdown hw (Nat.le_of_ble_eq_true rfl) rfl rfl rfl rfl (Nat.le_of_ble_eq_true rfl) (Nat.le_of_ble_eq_true rfl) (Nat.le_of_ble_eq_true rfl) (bb + 8) (show 0 + (bb + 8) ≤ bb + 8 by omega) (fun v w1 hv => ?_)
  obtain ⟨k1, S1, rfl, rfl, kk, rfl, pm, hm, hmi⟩ := hwi v w1 hv
  refine wp_eq (st2 := [.int kk]) rfl ?_
  refine q_aload_n dL_law_1485 rfl ?_
  refine q_callVn (ν := mX10_bestShutdown) dL_law_1486 uw_1216 vX10_bestShutdown hm (Nat.le_of_ble_eq_true rfl) rfl rfl rfl rfl (Nat.le_of_ble_eq_true rfl) (Nat.le_of_ble_eq_true rfl) (Nat.le_of_ble_eq_true rfl) (bb + 8) (show 0 + (bb + 8) ≤ bb + 8 by omega) (fun v w1 hv => ?_)
  obtain ⟨b1, S2, rfl, rfl, rfl, hrl⟩ := hmi v w1 hv
  refine wp_eq (st2 := [.int kk, .int kk]) rfl ?_
  refine q_icmp_eq 1910 dL_law_1489 rfl (fun c => ?_) (fun c => absurd rfl c)
  refine wp_b (b2 := bb) (by omega) ?_
  exact k S2 hrl
set_option maxRecDepth 100000 in
set_option maxHeartbeats 4000000 in
theorem y_28 {g : G0} (hG : Gd g) {h : G1} {Q : State → Prop} {xs : Nat → Int32} {n i : Nat} (hX : Scr g h xs n) (hi : i + 5 ≤ n) {S : SS} (hR : RLaw S) {bb : Nat} (k : ∀ S2, RLaw S2 → wp g h mL_law (mixW g S2) [some (.ref 41), some (.ref 0), some (.ref 26), some (.ref 40), some (.int (nI i)), none, none, none] [] bb Q 1910) : wp g h mL_law (mixW g S) [some (.ref 41), some (.ref 0), some (.ref 26), some (.ref 40), some (.int (nI i)), none, none, none] [] (bb + 8) Q 1494 := by
  obtain ⟨pw, hw, hwi⟩ := op_recoveryFor hG hR (xs (i + 1)) (xs (i + 2))
  refine q_aload_n dL_law_1494 rfl ?_
  refine q_aload_n dL_law_1495 rfl ?_
  refine q_iload dL_law_1496 rfl ?_
  refine q_iconst (v := 1) dL_law_1498 rfl ?_
  refine q_iadd dL_law_1499 ?_
  refine q_sld hX dL_law_1500 (i + 1) (nI_add i 1) (by omega) ?_
  refine q_aload_n dL_law_1501 rfl ?_
  refine q_iload dL_law_1502 rfl ?_
  refine q_iconst (v := 2) dL_law_1504 rfl ?_
  refine q_iadd dL_law_1505 ?_
  refine q_sld hX dL_law_1506 (i + 2) (nI_add i 2) (by omega) ?_
  refine q_aload_n dL_law_1507 rfl ?_
  refine q_callSH (ν := mL_recoveryFor) dL_law_1508 uw_850 vL_recoveryFor hw rfl rfl (Nat.le_of_ble_eq_true rfl) (Nat.le_of_ble_eq_true rfl) (Nat.le_of_ble_eq_true rfl) (bb + 6) (show 2 + (bb + 6) ≤ bb + 8 by omega) (fun v w1 hv => ?_)
  obtain ⟨k1, S1, rfl, rfl, kk, rfl, pm, hm, hmi⟩ := hwi v w1 hv
  refine wp_eq (st2 := [.int kk]) rfl ?_
  refine q_ist5 dL_law_1511 (Nat.le_of_ble_eq_true rfl) rfl ?_
  refine q_aload_n dL_law_1513 rfl ?_
  refine q_aload_n dL_law_1514 rfl ?_
  refine q_iload dL_law_1515 rfl ?_
  refine q_iconst (v := 1) dL_law_1517 rfl ?_
  refine q_iadd dL_law_1518 ?_
  refine q_sld hX dL_law_1519 (i + 1) (nI_add i 1) (by omega) ?_
  refine q_aload_n dL_law_1520 rfl ?_
  refine q_iload dL_law_1521 rfl ?_
  refine q_iconst (v := 2) dL_law_1523 rfl ?_
  refine q_iadd dL_law_1524 ?_
  refine q_sld hX dL_law_1525 (i + 2) (nI_add i 2) (by omega) ?_
  refine q_callVn (ν := mX10_recoveryFor) dL_law_1526 uw_1220 vX10_recoveryFor hm (Nat.le_of_ble_eq_true rfl) rfl rfl rfl rfl (Nat.le_of_ble_eq_true rfl) (Nat.le_of_ble_eq_true rfl) (Nat.le_of_ble_eq_true rfl) (bb + 6) (show 0 + (bb + 6) ≤ bb + 6 by omega) (fun v w1 hv => ?_)
  obtain ⟨b1, S2, rfl, rfl, b2, rfl, hrf, hou, hrl⟩ := hmi v w1 hv
  refine wp_eq (st2 := [.int (b2)]) rfl ?_
  refine q_ist6 dL_law_1529 (Nat.le_of_ble_eq_true rfl) rfl ?_
  refine q_aload_n dL_law_1531 rfl ?_
  refine q_callVv (ν := mX10_thrown) dL_law_1532 uw_988 vX10_thrown (c_X10_thrown hG S2) (Nat.le_of_ble_eq_true rfl) rfl rfl rfl rfl (Nat.le_of_ble_eq_true rfl) (Nat.le_of_ble_eq_true rfl) (Nat.le_of_ble_eq_true rfl) (bb + 6) (show 0 + (bb + 6) ≤ bb + 6 by omega) ?_
  refine q_iload dL_law_1535 rfl ?_
  refine q_icmp_eq 1542 dL_law_1537 rfl (fun c => ?_) (fun c => absurd hrf c)
  refine q_iload dL_law_1542 rfl ?_
  refine q_if_ne 1559 dL_law_1544 rfl (fun c2 => ?_) (fun c2 => ?_)
  · refine q_goto 1910 dL_law_1559 rfl ?_
    refine wp_fg (L2 := [some (.ref 41), some (.ref 0), some (.ref 26), some (.ref 40), some (.int (nI i)), none, none, none]) ⟨rfl, rfl, rfl, rfl, rfl, trivial⟩ ?_
    refine wp_b (b2 := bb) (by omega) ?_
    exact k S2 hrl
  · refine q_aload_n dL_law_1547 rfl ?_
    refine q_iconst (v := 0) dL_law_1548 rfl ?_
    refine q_lald (f := z_OU S2) dL_law_1549 (Nat.le_of_ble_eq_true rfl) rfl 0 rfl (Nat.le_of_ble_eq_true rfl) (Nat.le_of_ble_eq_true rfl) ?_
    refine q_iload dL_law_1550 rfl ?_
    refine q_i2l dL_law_1552 ?_
    refine q_lcmp_eq 1559 dL_law_1553 dL_law_1554 rfl (fun c4 => ?_) (fun c4 => absurd (hou c2) c4)
    refine q_goto 1910 dL_law_1559 rfl ?_
    refine wp_fg (L2 := [some (.ref 41), some (.ref 0), some (.ref 26), some (.ref 40), some (.int (nI i)), none, none, none]) ⟨rfl, rfl, rfl, rfl, rfl, trivial⟩ ?_
    refine wp_b (b2 := bb) (by omega) ?_
    exact k S2 hrl
set_option maxRecDepth 100000 in
set_option maxHeartbeats 4000000 in
theorem y_29 {g : G0} (hG : Gd g) {h : G1} {Q : State → Prop} {xs : Nat → Int32} {n i : Nat} (hX : Scr g h xs n) (hi : i + 5 ≤ n) {S : SS} (hR : RLaw S) {bb : Nat} (k : ∀ S2, RLaw S2 → wp g h mL_law (mixW g S2) [some (.ref 41), some (.ref 0), some (.ref 26), some (.ref 40), some (.int (nI i)), none, none, none] [] bb Q 1910) : wp g h mL_law (mixW g S) [some (.ref 41), some (.ref 0), some (.ref 26), some (.ref 40), some (.int (nI i)), none, none, none] [] (bb + 8) Q 1562 := by
  obtain ⟨pw, hw, hwi⟩ := op_measure hG hR (xs (i + 1)) (xs (i + 2))
  refine q_aload_n dL_law_1562 rfl ?_
  refine q_aload_n dL_law_1563 rfl ?_
  refine q_iload dL_law_1564 rfl ?_
  refine q_iconst (v := 1) dL_law_1566 rfl ?_
  refine q_iadd dL_law_1567 ?_
  refine q_sld hX dL_law_1568 (i + 1) (nI_add i 1) (by omega) ?_
  refine q_aload_n dL_law_1569 rfl ?_
  refine q_iload dL_law_1570 rfl ?_
  refine q_iconst (v := 2) dL_law_1572 rfl ?_
  refine q_iadd dL_law_1573 ?_
  refine q_sld hX dL_law_1574 (i + 2) (nI_add i 2) (by omega) ?_
  refine q_aload_n dL_law_1575 rfl ?_
  refine q_callSH (ν := mL_measure) dL_law_1576 uw_865 vL_measure hw rfl rfl (Nat.le_of_ble_eq_true rfl) (Nat.le_of_ble_eq_true rfl) (Nat.le_of_ble_eq_true rfl) (bb + 6) (show 2 + (bb + 6) ≤ bb + 8 by omega) (fun v w1 hv => ?_)
  obtain ⟨k1, S1, rfl, rfl, kk, rfl, pm, hm, hmi⟩ := hwi v w1 hv
  refine wp_eq (st2 := [.int kk]) rfl ?_
  refine q_ist5 dL_law_1579 (Nat.le_of_ble_eq_true rfl) rfl ?_
  refine q_aload_n dL_law_1581 rfl ?_
  refine q_aload_n dL_law_1582 rfl ?_
  refine q_iload dL_law_1583 rfl ?_
  refine q_iconst (v := 1) dL_law_1585 rfl ?_
  refine q_iadd dL_law_1586 ?_
  refine q_sld hX dL_law_1587 (i + 1) (nI_add i 1) (by omega) ?_
  refine q_aload_n dL_law_1588 rfl ?_
  refine q_iload dL_law_1589 rfl ?_
  refine q_iconst (v := 2) dL_law_1591 rfl ?_
  refine q_iadd dL_law_1592 ?_
  refine q_sld hX dL_law_1593 (i + 2) (nI_add i 2) (by omega) ?_
  refine q_callVn (ν := mX10_measure) dL_law_1594 uw_1224 vX10_measure hm (Nat.le_of_ble_eq_true rfl) rfl rfl rfl rfl (Nat.le_of_ble_eq_true rfl) (Nat.le_of_ble_eq_true rfl) (Nat.le_of_ble_eq_true rfl) (bb + 6) (show 0 + (bb + 6) ≤ bb + 6 by omega) (fun v w1 hv => ?_)
  obtain ⟨b1, S2, rfl, rfl, b2, rfl, hrf, hou, hrl⟩ := hmi v w1 hv
  refine wp_eq (st2 := [.int (b2)]) rfl ?_
  refine q_ist6 dL_law_1597 (Nat.le_of_ble_eq_true rfl) rfl ?_
  refine q_aload_n dL_law_1599 rfl ?_
  refine q_callVv (ν := mX10_thrown) dL_law_1600 uw_988 vX10_thrown (c_X10_thrown hG S2) (Nat.le_of_ble_eq_true rfl) rfl rfl rfl rfl (Nat.le_of_ble_eq_true rfl) (Nat.le_of_ble_eq_true rfl) (Nat.le_of_ble_eq_true rfl) (bb + 6) (show 0 + (bb + 6) ≤ bb + 6 by omega) ?_
  refine q_iload dL_law_1603 rfl ?_
  refine q_icmp_eq 1610 dL_law_1605 rfl (fun c => ?_) (fun c => absurd hrf c)
  refine q_iload dL_law_1610 rfl ?_
  refine q_if_ne 1627 dL_law_1612 rfl (fun c2 => ?_) (fun c2 => ?_)
  · refine q_goto 1910 dL_law_1627 rfl ?_
    refine wp_fg (L2 := [some (.ref 41), some (.ref 0), some (.ref 26), some (.ref 40), some (.int (nI i)), none, none, none]) ⟨rfl, rfl, rfl, rfl, rfl, trivial⟩ ?_
    refine wp_b (b2 := bb) (by omega) ?_
    exact k S2 hrl
  · refine q_aload_n dL_law_1615 rfl ?_
    refine q_iconst (v := 0) dL_law_1616 rfl ?_
    refine q_lald (f := z_OU S2) dL_law_1617 (Nat.le_of_ble_eq_true rfl) rfl 0 rfl (Nat.le_of_ble_eq_true rfl) (Nat.le_of_ble_eq_true rfl) ?_
    refine q_iload dL_law_1618 rfl ?_
    refine q_i2l dL_law_1620 ?_
    refine q_lcmp_eq 1627 dL_law_1621 dL_law_1622 rfl (fun c4 => ?_) (fun c4 => absurd (hou c2) c4)
    refine q_goto 1910 dL_law_1627 rfl ?_
    refine wp_fg (L2 := [some (.ref 41), some (.ref 0), some (.ref 26), some (.ref 40), some (.int (nI i)), none, none, none]) ⟨rfl, rfl, rfl, rfl, rfl, trivial⟩ ?_
    refine wp_b (b2 := bb) (by omega) ?_
    exact k S2 hrl
set_option maxRecDepth 100000 in
set_option maxHeartbeats 4000000 in
theorem y_30 {g : G0} (hG : Gd g) {h : G1} {Q : State → Prop} {xs : Nat → Int32} {n i : Nat} (hX : Scr g h xs n) (hi : i + 5 ≤ n) {S : SS} (hR : RLaw S) {bb : Nat} (k : ∀ S2, RLaw S2 → wp g h mL_law (mixW g S2) [some (.ref 41), some (.ref 0), some (.ref 26), some (.ref 40), some (.int (nI i)), none, none, none] [] bb Q 1910) : wp g h mL_law (mixW g S) [some (.ref 41), some (.ref 0), some (.ref 26), some (.ref 40), some (.int (nI i)), none, none, none] [] (bb + 8) Q 1630 := by
  obtain ⟨pw, hw, hwi⟩ := op_possibleRecoveries hG hR (xs (i + 1)) (xs (i + 2))
  refine q_aload_n dL_law_1630 rfl ?_
  refine q_aload_n dL_law_1631 rfl ?_
  refine q_iload dL_law_1632 rfl ?_
  refine q_iconst (v := 1) dL_law_1634 rfl ?_
  refine q_iadd dL_law_1635 ?_
  refine q_sld hX dL_law_1636 (i + 1) (nI_add i 1) (by omega) ?_
  refine q_aload_n dL_law_1637 rfl ?_
  refine q_iload dL_law_1638 rfl ?_
  refine q_iconst (v := 2) dL_law_1640 rfl ?_
  refine q_iadd dL_law_1641 ?_
  refine q_sld hX dL_law_1642 (i + 2) (nI_add i 2) (by omega) ?_
  refine q_aload_n dL_law_1643 rfl ?_
  refine q_callSH (ν := mL_possibleRecoveries) dL_law_1644 uw_877 vL_possibleRecoveries hw rfl rfl (Nat.le_of_ble_eq_true rfl) (Nat.le_of_ble_eq_true rfl) (Nat.le_of_ble_eq_true rfl) (bb + 6) (show 2 + (bb + 6) ≤ bb + 8 by omega) (fun v w1 hv => ?_)
  obtain ⟨k1, S1, rfl, rfl, kk, rfl, pm, hm, hmi⟩ := hwi v w1 hv
  refine wp_eq (st2 := [.int kk]) rfl ?_
  refine q_ist5 dL_law_1647 (Nat.le_of_ble_eq_true rfl) rfl ?_
  refine q_aload_n dL_law_1649 rfl ?_
  refine q_aload_n dL_law_1650 rfl ?_
  refine q_iload dL_law_1651 rfl ?_
  refine q_iconst (v := 1) dL_law_1653 rfl ?_
  refine q_iadd dL_law_1654 ?_
  refine q_sld hX dL_law_1655 (i + 1) (nI_add i 1) (by omega) ?_
  refine q_aload_n dL_law_1656 rfl ?_
  refine q_iload dL_law_1657 rfl ?_
  refine q_iconst (v := 2) dL_law_1659 rfl ?_
  refine q_iadd dL_law_1660 ?_
  refine q_sld hX dL_law_1661 (i + 2) (nI_add i 2) (by omega) ?_
  refine q_callVn (ν := mX10_possibleRecoveries) dL_law_1662 uw_1228 vX10_possibleRecoveries hm (Nat.le_of_ble_eq_true rfl) rfl rfl rfl rfl (Nat.le_of_ble_eq_true rfl) (Nat.le_of_ble_eq_true rfl) (Nat.le_of_ble_eq_true rfl) (bb + 6) (show 0 + (bb + 6) ≤ bb + 6 by omega) (fun v w1 hv => ?_)
  obtain ⟨b1, S2, rfl, rfl, b2, rfl, hrf, hou, hrl⟩ := hmi v w1 hv
  refine wp_eq (st2 := [.int (b2)]) rfl ?_
  refine q_ist6 dL_law_1665 (Nat.le_of_ble_eq_true rfl) rfl ?_
  refine q_aload_n dL_law_1667 rfl ?_
  refine q_callVv (ν := mX10_thrown) dL_law_1668 uw_988 vX10_thrown (c_X10_thrown hG S2) (Nat.le_of_ble_eq_true rfl) rfl rfl rfl rfl (Nat.le_of_ble_eq_true rfl) (Nat.le_of_ble_eq_true rfl) (Nat.le_of_ble_eq_true rfl) (bb + 6) (show 0 + (bb + 6) ≤ bb + 6 by omega) ?_
  refine q_iload dL_law_1671 rfl ?_
  refine q_icmp_eq 1678 dL_law_1673 rfl (fun c => ?_) (fun c => absurd hrf c)
  refine q_iload dL_law_1678 rfl ?_
  refine q_if_ne 1695 dL_law_1680 rfl (fun c2 => ?_) (fun c2 => ?_)
  · refine q_goto 1910 dL_law_1695 rfl ?_
    refine wp_fg (L2 := [some (.ref 41), some (.ref 0), some (.ref 26), some (.ref 40), some (.int (nI i)), none, none, none]) ⟨rfl, rfl, rfl, rfl, rfl, trivial⟩ ?_
    refine wp_b (b2 := bb) (by omega) ?_
    exact k S2 hrl
  · refine q_aload_n dL_law_1683 rfl ?_
    refine q_iconst (v := 0) dL_law_1684 rfl ?_
    refine q_lald (f := z_OU S2) dL_law_1685 (Nat.le_of_ble_eq_true rfl) rfl 0 rfl (Nat.le_of_ble_eq_true rfl) (Nat.le_of_ble_eq_true rfl) ?_
    refine q_iload dL_law_1686 rfl ?_
    refine q_i2l dL_law_1688 ?_
    refine q_lcmp_eq 1695 dL_law_1689 dL_law_1690 rfl (fun c4 => ?_) (fun c4 => absurd (hou c2) c4)
    refine q_goto 1910 dL_law_1695 rfl ?_
    refine wp_fg (L2 := [some (.ref 41), some (.ref 0), some (.ref 26), some (.ref 40), some (.int (nI i)), none, none, none]) ⟨rfl, rfl, rfl, rfl, rfl, trivial⟩ ?_
    refine wp_b (b2 := bb) (by omega) ?_
    exact k S2 hrl
set_option maxRecDepth 100000 in
set_option maxHeartbeats 4000000 in
theorem y_31 {g : G0} (hG : Gd g) {h : G1} {Q : State → Prop} {xs : Nat → Int32} {n i : Nat} (hX : Scr g h xs n) (hi : i + 5 ≤ n) {S : SS} (hR : RLaw S) {bb : Nat} (k : ∀ S2, RLaw S2 → wp g h mL_law (mixW g S2) [some (.ref 41), some (.ref 0), some (.ref 26), some (.ref 40), some (.int (nI i)), none, none, none] [] bb Q 1910) : wp g h mL_law (mixW g S) [some (.ref 41), some (.ref 0), some (.ref 26), some (.ref 40), some (.int (nI i)), none, none, none] [] (bb + 8) Q 1698 := by
  obtain ⟨pw, hw, hwi⟩ := op_disturb hG hR ((((xs (i + 1) : Int32).toInt64 <<< ((32 : Int32).toInt64 &&& 63)) ||| ((xs (i + 2) : Int32).toInt64 &&& 4294967295))) (xs (i + 3))
  refine q_aload_n dL_law_1698 rfl ?_
  refine q_aload_n dL_law_1699 rfl ?_
  refine q_iload dL_law_1700 rfl ?_
  refine q_iconst (v := 1) dL_law_1702 rfl ?_
  refine q_iadd dL_law_1703 ?_
  refine q_sld hX dL_law_1704 (i + 1) (nI_add i 1) (by omega) ?_
  refine q_i2l dL_law_1705 ?_
  refine q_bipush (v := 32) dL_law_1706 rfl ?_
  refine q_lshl dL_law_1708 ?_
  refine q_aload_n dL_law_1709 rfl ?_
  refine q_iload dL_law_1710 rfl ?_
  refine q_iconst (v := 2) dL_law_1712 rfl ?_
  refine q_iadd dL_law_1713 ?_
  refine q_sld hX dL_law_1714 (i + 2) (nI_add i 2) (by omega) ?_
  refine q_i2l dL_law_1715 ?_
  refine q_ldc2 dL_law_1716 uw_1250 ?_
  refine q_land dL_law_1719 ?_
  refine q_lor dL_law_1720 ?_
  refine q_aload_n dL_law_1721 rfl ?_
  refine q_iload dL_law_1722 rfl ?_
  refine q_iconst (v := 3) dL_law_1724 rfl ?_
  refine q_iadd dL_law_1725 ?_
  refine q_sld hX dL_law_1726 (i + 3) (nI_add i 3) (by omega) ?_
  refine q_aload_n dL_law_1727 rfl ?_
  refine q_callSH (ν := mL_disturb) dL_law_1728 uw_888 vL_disturb hw rfl rfl (Nat.le_of_ble_eq_true rfl) (Nat.le_of_ble_eq_true rfl) (Nat.le_of_ble_eq_true rfl) (bb + 7) (show 1 + (bb + 7) ≤ bb + 8 by omega) (fun v w1 hv => ?_)
  obtain ⟨k1, S1, rfl, rfl, kk, rfl, pm, hm, hmi⟩ := hwi v w1 hv
  refine wp_eq (st2 := [.int kk]) rfl ?_
  refine q_ist5 dL_law_1731 (Nat.le_of_ble_eq_true rfl) rfl ?_
  refine q_aload_n dL_law_1733 rfl ?_
  refine q_aload_n dL_law_1734 rfl ?_
  refine q_iload dL_law_1735 rfl ?_
  refine q_iconst (v := 1) dL_law_1737 rfl ?_
  refine q_iadd dL_law_1738 ?_
  refine q_sld hX dL_law_1739 (i + 1) (nI_add i 1) (by omega) ?_
  refine q_i2l dL_law_1740 ?_
  refine q_bipush (v := 32) dL_law_1741 rfl ?_
  refine q_lshl dL_law_1743 ?_
  refine q_aload_n dL_law_1744 rfl ?_
  refine q_iload dL_law_1745 rfl ?_
  refine q_iconst (v := 2) dL_law_1747 rfl ?_
  refine q_iadd dL_law_1748 ?_
  refine q_sld hX dL_law_1749 (i + 2) (nI_add i 2) (by omega) ?_
  refine q_i2l dL_law_1750 ?_
  refine q_ldc2 dL_law_1751 uw_1250 ?_
  refine q_land dL_law_1754 ?_
  refine q_lor dL_law_1755 ?_
  refine q_aload_n dL_law_1756 rfl ?_
  refine q_iload dL_law_1757 rfl ?_
  refine q_iconst (v := 3) dL_law_1759 rfl ?_
  refine q_iadd dL_law_1760 ?_
  refine q_sld hX dL_law_1761 (i + 3) (nI_add i 3) (by omega) ?_
  refine q_callVn (ν := mX10_disturb) dL_law_1762 uw_1236 vX10_disturb hm (Nat.le_of_ble_eq_true rfl) rfl rfl rfl rfl (Nat.le_of_ble_eq_true rfl) (Nat.le_of_ble_eq_true rfl) (Nat.le_of_ble_eq_true rfl) (bb + 7) (show 0 + (bb + 7) ≤ bb + 7 by omega) (fun v w1 hv => ?_)
  obtain ⟨b1, S2, rfl, rfl, b2, rfl, hrf, hou, hrl⟩ := hmi v w1 hv
  refine wp_eq (st2 := [.int (b2)]) rfl ?_
  refine q_ist6 dL_law_1765 (Nat.le_of_ble_eq_true rfl) rfl ?_
  refine q_aload_n dL_law_1767 rfl ?_
  refine q_callVv (ν := mX10_thrown) dL_law_1768 uw_988 vX10_thrown (c_X10_thrown hG S2) (Nat.le_of_ble_eq_true rfl) rfl rfl rfl rfl (Nat.le_of_ble_eq_true rfl) (Nat.le_of_ble_eq_true rfl) (Nat.le_of_ble_eq_true rfl) (bb + 7) (show 0 + (bb + 7) ≤ bb + 7 by omega) ?_
  refine q_iload dL_law_1771 rfl ?_
  refine q_icmp_eq 1778 dL_law_1773 rfl (fun c => ?_) (fun c => absurd hrf c)
  refine q_iload dL_law_1778 rfl ?_
  refine q_if_ne 1795 dL_law_1780 rfl (fun c2 => ?_) (fun c2 => ?_)
  · refine q_goto 1910 dL_law_1795 rfl ?_
    refine wp_fg (L2 := [some (.ref 41), some (.ref 0), some (.ref 26), some (.ref 40), some (.int (nI i)), none, none, none]) ⟨rfl, rfl, rfl, rfl, rfl, trivial⟩ ?_
    refine wp_b (b2 := bb) (by omega) ?_
    exact k S2 hrl
  · refine q_aload_n dL_law_1783 rfl ?_
    refine q_iconst (v := 0) dL_law_1784 rfl ?_
    refine q_lald (f := z_OU S2) dL_law_1785 (Nat.le_of_ble_eq_true rfl) rfl 0 rfl (Nat.le_of_ble_eq_true rfl) (Nat.le_of_ble_eq_true rfl) ?_
    refine q_iload dL_law_1786 rfl ?_
    refine q_i2l dL_law_1788 ?_
    refine q_lcmp_eq 1795 dL_law_1789 dL_law_1790 rfl (fun c4 => ?_) (fun c4 => absurd (hou c2) c4)
    refine q_goto 1910 dL_law_1795 rfl ?_
    refine wp_fg (L2 := [some (.ref 41), some (.ref 0), some (.ref 26), some (.ref 40), some (.int (nI i)), none, none, none]) ⟨rfl, rfl, rfl, rfl, rfl, trivial⟩ ?_
    refine wp_b (b2 := bb) (by omega) ?_
    exact k S2 hrl
set_option maxRecDepth 100000 in
set_option maxHeartbeats 4000000 in
theorem y_32 {g : G0} (hG : Gd g) {h : G1} {Q : State → Prop} {xs : Nat → Int32} {n i : Nat} (hX : Scr g h xs n) (hi : i + 5 ≤ n) {S : SS} (hR : RLaw S) {bb : Nat} (k : ∀ S2, RLaw S2 → wp g h mL_law (mixW g S2) [some (.ref 41), some (.ref 0), some (.ref 26), some (.ref 40), some (.int (nI i)), none, none, none] [] bb Q 1910) : wp g h mL_law (mixW g S) [some (.ref 41), some (.ref 0), some (.ref 26), some (.ref 40), some (.int (nI i)), none, none, none] [] (bb + 8) Q 1798 := by
  obtain ⟨pw, hw, hwi⟩ := op_save hG hR (xs (i + 1))
  refine q_aload_n dL_law_1798 rfl ?_
  refine q_aload_n dL_law_1799 rfl ?_
  refine q_iload dL_law_1800 rfl ?_
  refine q_iconst (v := 1) dL_law_1802 rfl ?_
  refine q_iadd dL_law_1803 ?_
  refine q_sld hX dL_law_1804 (i + 1) (nI_add i 1) (by omega) ?_
  refine q_aload_n dL_law_1805 rfl ?_
  refine q_callSH (ν := mL_save) dL_law_1806 uw_901 vL_save hw rfl rfl (Nat.le_of_ble_eq_true rfl) (Nat.le_of_ble_eq_true rfl) (Nat.le_of_ble_eq_true rfl) (bb + 7) (show 1 + (bb + 7) ≤ bb + 8 by omega) (fun v w1 hv => ?_)
  obtain ⟨k1, S1, rfl, rfl, kk, rfl, pm, hm, hmi⟩ := hwi v w1 hv
  refine wp_eq (st2 := [.int kk]) rfl ?_
  refine q_ist5 dL_law_1809 (Nat.le_of_ble_eq_true rfl) rfl ?_
  refine q_aload_n dL_law_1811 rfl ?_
  refine q_aload_n dL_law_1812 rfl ?_
  refine q_iload dL_law_1813 rfl ?_
  refine q_iconst (v := 1) dL_law_1815 rfl ?_
  refine q_iadd dL_law_1816 ?_
  refine q_sld hX dL_law_1817 (i + 1) (nI_add i 1) (by omega) ?_
  refine q_callVn (ν := mX10_save) dL_law_1818 uw_1242 vX10_save hm (Nat.le_of_ble_eq_true rfl) rfl rfl rfl rfl (Nat.le_of_ble_eq_true rfl) (Nat.le_of_ble_eq_true rfl) (Nat.le_of_ble_eq_true rfl) (bb + 7) (show 0 + (bb + 7) ≤ bb + 7 by omega) (fun v w1 hv => ?_)
  obtain ⟨b1, S2, rfl, rfl, b2, rfl, hrf, hou, hrl⟩ := hmi v w1 hv
  refine wp_eq (st2 := [.int (b2)]) rfl ?_
  refine q_ist6 dL_law_1821 (Nat.le_of_ble_eq_true rfl) rfl ?_
  refine q_aload_n dL_law_1823 rfl ?_
  refine q_callVv (ν := mX10_thrown) dL_law_1824 uw_988 vX10_thrown (c_X10_thrown hG S2) (Nat.le_of_ble_eq_true rfl) rfl rfl rfl rfl (Nat.le_of_ble_eq_true rfl) (Nat.le_of_ble_eq_true rfl) (Nat.le_of_ble_eq_true rfl) (bb + 7) (show 0 + (bb + 7) ≤ bb + 7 by omega) ?_
  refine q_iload dL_law_1827 rfl ?_
  refine q_icmp_eq 1834 dL_law_1829 rfl (fun c => ?_) (fun c => absurd hrf c)
  refine q_iload dL_law_1834 rfl ?_
  refine q_if_ne 1851 dL_law_1836 rfl (fun c2 => ?_) (fun c2 => ?_)
  · refine q_goto 1910 dL_law_1851 rfl ?_
    refine wp_fg (L2 := [some (.ref 41), some (.ref 0), some (.ref 26), some (.ref 40), some (.int (nI i)), none, none, none]) ⟨rfl, rfl, rfl, rfl, rfl, trivial⟩ ?_
    refine wp_b (b2 := bb) (by omega) ?_
    exact k S2 hrl
  · refine q_aload_n dL_law_1839 rfl ?_
    refine q_iconst (v := 0) dL_law_1840 rfl ?_
    refine q_lald (f := z_OU S2) dL_law_1841 (Nat.le_of_ble_eq_true rfl) rfl 0 rfl (Nat.le_of_ble_eq_true rfl) (Nat.le_of_ble_eq_true rfl) ?_
    refine q_iload dL_law_1842 rfl ?_
    refine q_i2l dL_law_1844 ?_
    refine q_lcmp_eq 1851 dL_law_1845 dL_law_1846 rfl (fun c4 => ?_) (fun c4 => absurd (hou c2) c4)
    refine q_goto 1910 dL_law_1851 rfl ?_
    refine wp_fg (L2 := [some (.ref 41), some (.ref 0), some (.ref 26), some (.ref 40), some (.int (nI i)), none, none, none]) ⟨rfl, rfl, rfl, rfl, rfl, trivial⟩ ?_
    refine wp_b (b2 := bb) (by omega) ?_
    exact k S2 hrl
set_option maxRecDepth 100000 in
set_option maxHeartbeats 4000000 in
theorem y_33 {g : G0} (hG : Gd g) {h : G1} {Q : State → Prop} {xs : Nat → Int32} {n i : Nat} (hX : Scr g h xs n) (hi : i + 5 ≤ n) {S : SS} (hR : RLaw S) {bb : Nat} (k : ∀ S2, RLaw S2 → wp g h mL_law (mixW g S2) [some (.ref 41), some (.ref 0), some (.ref 26), some (.ref 40), some (.int (nI i)), none, none, none] [] bb Q 1910) : wp g h mL_law (mixW g S) [some (.ref 41), some (.ref 0), some (.ref 26), some (.ref 40), some (.int (nI i)), none, none, none] [] (bb + 8) Q 1854 := by
  obtain ⟨pw, hw, hwi⟩ := op_restore hG hR (xs (i + 1))
  refine q_aload_n dL_law_1854 rfl ?_
  refine q_aload_n dL_law_1855 rfl ?_
  refine q_iload dL_law_1856 rfl ?_
  refine q_iconst (v := 1) dL_law_1858 rfl ?_
  refine q_iadd dL_law_1859 ?_
  refine q_sld hX dL_law_1860 (i + 1) (nI_add i 1) (by omega) ?_
  refine q_aload_n dL_law_1861 rfl ?_
  refine q_callSH (ν := mL_restore) dL_law_1862 uw_909 vL_restore hw rfl rfl (Nat.le_of_ble_eq_true rfl) (Nat.le_of_ble_eq_true rfl) (Nat.le_of_ble_eq_true rfl) (bb + 6) (show 2 + (bb + 6) ≤ bb + 8 by omega) (fun v w1 hv => ?_)
  obtain ⟨k1, S1, rfl, rfl, kk, rfl, pm, hm, hmi⟩ := hwi v w1 hv
  refine wp_eq (st2 := [.int kk]) rfl ?_
  refine q_ist5 dL_law_1865 (Nat.le_of_ble_eq_true rfl) rfl ?_
  refine q_aload_n dL_law_1867 rfl ?_
  refine q_aload_n dL_law_1868 rfl ?_
  refine q_iload dL_law_1869 rfl ?_
  refine q_iconst (v := 1) dL_law_1871 rfl ?_
  refine q_iadd dL_law_1872 ?_
  refine q_sld hX dL_law_1873 (i + 1) (nI_add i 1) (by omega) ?_
  refine q_callVn (ν := mX10_restore) dL_law_1874 uw_1246 vX10_restore hm (Nat.le_of_ble_eq_true rfl) rfl rfl rfl rfl (Nat.le_of_ble_eq_true rfl) (Nat.le_of_ble_eq_true rfl) (Nat.le_of_ble_eq_true rfl) (bb + 6) (show 0 + (bb + 6) ≤ bb + 6 by omega) (fun v w1 hv => ?_)
  obtain ⟨b1, S2, rfl, rfl, b2, rfl, hrf, hou, hrl⟩ := hmi v w1 hv
  refine wp_eq (st2 := [.int (b2)]) rfl ?_
  refine q_ist6 dL_law_1877 (Nat.le_of_ble_eq_true rfl) rfl ?_
  refine q_aload_n dL_law_1879 rfl ?_
  refine q_callVv (ν := mX10_thrown) dL_law_1880 uw_988 vX10_thrown (c_X10_thrown hG S2) (Nat.le_of_ble_eq_true rfl) rfl rfl rfl rfl (Nat.le_of_ble_eq_true rfl) (Nat.le_of_ble_eq_true rfl) (Nat.le_of_ble_eq_true rfl) (bb + 6) (show 0 + (bb + 6) ≤ bb + 6 by omega) ?_
  refine q_iload dL_law_1883 rfl ?_
  refine q_icmp_eq 1890 dL_law_1885 rfl (fun c => ?_) (fun c => absurd hrf c)
  refine q_iload dL_law_1890 rfl ?_
  refine q_if_ne 1907 dL_law_1892 rfl (fun c2 => ?_) (fun c2 => ?_)
  · refine q_goto 1910 dL_law_1907 rfl ?_
    refine wp_fg (L2 := [some (.ref 41), some (.ref 0), some (.ref 26), some (.ref 40), some (.int (nI i)), none, none, none]) ⟨rfl, rfl, rfl, rfl, rfl, trivial⟩ ?_
    refine wp_b (b2 := bb) (by omega) ?_
    exact k S2 hrl
  · refine q_aload_n dL_law_1895 rfl ?_
    refine q_iconst (v := 0) dL_law_1896 rfl ?_
    refine q_lald (f := z_OU S2) dL_law_1897 (Nat.le_of_ble_eq_true rfl) rfl 0 rfl (Nat.le_of_ble_eq_true rfl) (Nat.le_of_ble_eq_true rfl) ?_
    refine q_iload dL_law_1898 rfl ?_
    refine q_i2l dL_law_1900 ?_
    refine q_lcmp_eq 1907 dL_law_1901 dL_law_1902 rfl (fun c4 => ?_) (fun c4 => absurd (hou c2) c4)
    refine q_goto 1910 dL_law_1907 rfl ?_
    refine wp_fg (L2 := [some (.ref 41), some (.ref 0), some (.ref 26), some (.ref 40), some (.int (nI i)), none, none, none]) ⟨rfl, rfl, rfl, rfl, rfl, trivial⟩ ?_
    refine wp_b (b2 := bb) (by omega) ?_
    exact k S2 hrl
