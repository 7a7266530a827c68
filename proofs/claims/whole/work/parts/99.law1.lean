/-! the cases of the law: set bridge cart guess leave hint pass -/
section LC1
variable {p : Program} {l : Launch} {e : Env} {s : State} {m : MethodId} {below : List Frame} {meth : Method} {c : Code} {H : Heap} {locs : List Loc} {Q : State → Prop} {E : EE} {B : Nat} {ls : Array Slot}
set_option maxHeartbeats 4000000 in
set_option maxRecDepth 100000 in
theorem lc_set {b L i : Nat} {xs : Nat → Int32} {g : GS} (X : Cx p s m #[Value.ref b] c code 4 RL E B) (hX : va_X b L xs s s.heap) (hbl : b < s.heap.size) (hbB : b < B) (hL : L ≤ 2560) (hi : i + 5 ≤ L) (hl : lv_has ls 4 [(0, .ref b), (1, .ref (B + 0)), (2, .ref (B + 459)), (3, .int (nI i))]) (hR : RG g) (hJ : JG E B s g H locs)
    (next : ∀ (g1 : GS) (H : Heap) (locs : List Loc), RG g1 → JG E B s g1 H locs → W p l e room_1 s m #[Value.ref b] below meth c H locs 464 8551 Q (F0 m 1004 ls [])) : W p l e room_1 s m #[Value.ref b] below meth c H locs 464 8551 Q (F0 m 160 ls []) := by
  have hx := X.1
  have hb := X.2.1
  refine lv_aload_n hx hb dL_law_160 rfl (lv_at hl 1 rfl) ?_
  refine relem X hJ hX hbl hbB hL hl (k := 1) (by omega) (by decide) dL_law_161 dL_law_162 dL_law_163 dL_law_164 dL_law_165 ?_
  refine relem X hJ hX hbl hbB hL hl (k := 2) (by omega) (by decide) dL_law_166 dL_law_167 dL_law_168 dL_law_169 dL_law_170 ?_
  refine kL_13 X hJ (mX6_set l E B g (xs (i + 1)) (xs (i + 2)) hR.1) rfl (by omega) pcT_0 hl.1 ⟨Nat.le_of_ble_eq_true rfl, Nat.le_of_ble_eq_true rfl⟩ ⟨Nat.le_of_ble_eq_true rfl, Nat.le_of_ble_eq_true rfl⟩ (rest := []) rfl (Nat.le_of_ble_eq_true rfl) dL_law_171 (fun H locs hJ => ?_)
  refine lv_aload_n hx hb dL_law_174 rfl (lv_at hl 2 rfl) ?_
  refine relem X hJ hX hbl hbB hL hl (k := 1) (by omega) (by decide) dL_law_175 dL_law_176 dL_law_177 dL_law_178 dL_law_179 ?_
  refine relem X hJ hX hbl hbB hL hl (k := 2) (by omega) (by decide) dL_law_180 dL_law_181 dL_law_182 dL_law_183 dL_law_184 ?_
  have ok : OKs g (sX6_set g (xs (i + 1)) (xs (i + 2))) (sX7_set (sX6_set g (xs (i + 1)) (xs (i + 2))).2 (xs (i + 1)) (xs (i + 2))) := set_ok hR
  have hgi := gi_of ok.1 hR
  refine kL_17 X hJ (mX7_set l E B _ (xs (i + 1)) (xs (i + 2)) hgi.gm) rfl (by omega) pcT_459 hl.1 ⟨Nat.le_of_ble_eq_true rfl, Nat.le_of_ble_eq_true rfl⟩ ⟨Nat.le_of_ble_eq_true rfl, Nat.le_of_ble_eq_true rfl⟩ (rest := [.int (sX6_set g (xs (i + 1)) (xs (i + 2))).1]) rfl (Nat.le_of_ble_eq_true rfl) dL_law_185 (fun H locs hJ => ?_)
  refine lv_icmp_eq (tgt := 1004) hx hb dL_law_188 (by decide) (fun q => ?_) (fun q => ?_)
  · exact next _ _ _ ok.2.2 hJ
  · exact absurd ok.2.1 q
set_option maxHeartbeats 4000000 in
set_option maxRecDepth 100000 in
theorem lc_bridge {b L i : Nat} {xs : Nat → Int32} {g : GS} (X : Cx p s m #[Value.ref b] c code 4 RL E B) (hX : va_X b L xs s s.heap) (hbl : b < s.heap.size) (hbB : b < B) (hL : L ≤ 2560) (hi : i + 5 ≤ L) (hl : lv_has ls 4 [(0, .ref b), (1, .ref (B + 0)), (2, .ref (B + 459)), (3, .int (nI i))]) (hR : RG g) (hJ : JG E B s g H locs)
    (next : ∀ (g1 : GS) (H : Heap) (locs : List Loc), RG g1 → JG E B s g1 H locs → W p l e room_1 s m #[Value.ref b] below meth c H locs 464 8551 Q (F0 m 1004 ls [])) : W p l e room_1 s m #[Value.ref b] below meth c H locs 464 8551 Q (F0 m 193 ls []) := by
  have hx := X.1
  have hb := X.2.1
  refine lv_aload_n hx hb dL_law_193 rfl (lv_at hl 1 rfl) ?_
  refine relem X hJ hX hbl hbB hL hl (k := 1) (by omega) (by decide) dL_law_194 dL_law_195 dL_law_196 dL_law_197 dL_law_198 ?_
  refine relem X hJ hX hbl hbB hL hl (k := 2) (by omega) (by decide) dL_law_199 dL_law_200 dL_law_201 dL_law_202 dL_law_203 ?_
  refine relem X hJ hX hbl hbB hL hl (k := 3) (by omega) (by decide) dL_law_204 dL_law_205 dL_law_206 dL_law_207 dL_law_208 ?_
  refine kL_18 X hJ (mX6_bridge l E B g (xs (i + 1)) (xs (i + 2)) (xs (i + 3)) hR.1) rfl (by omega) pcT_0 hl.1 ⟨Nat.le_of_ble_eq_true rfl, Nat.le_of_ble_eq_true rfl⟩ ⟨Nat.le_of_ble_eq_true rfl, Nat.le_of_ble_eq_true rfl⟩ (rest := []) rfl (Nat.le_of_ble_eq_true rfl) dL_law_209 (fun H locs hJ => ?_)
  refine lv_aload_n hx hb dL_law_212 rfl (lv_at hl 2 rfl) ?_
  refine relem X hJ hX hbl hbB hL hl (k := 1) (by omega) (by decide) dL_law_213 dL_law_214 dL_law_215 dL_law_216 dL_law_217 ?_
  refine relem X hJ hX hbl hbB hL hl (k := 2) (by omega) (by decide) dL_law_218 dL_law_219 dL_law_220 dL_law_221 dL_law_222 ?_
  refine relem X hJ hX hbl hbB hL hl (k := 3) (by omega) (by decide) dL_law_223 dL_law_224 dL_law_225 dL_law_226 dL_law_227 ?_
  have ok : OKs g (sX6_bridge g (xs (i + 1)) (xs (i + 2)) (xs (i + 3))) (sX7_bridge (sX6_bridge g (xs (i + 1)) (xs (i + 2)) (xs (i + 3))).2 (xs (i + 1)) (xs (i + 2)) (xs (i + 3))) := bridge_ok hR
  have hgi := gi_of ok.1 hR
  refine kL_22 X hJ (mX7_bridge l E B _ (xs (i + 1)) (xs (i + 2)) (xs (i + 3)) hgi.gm) rfl (by omega) pcT_459 hl.1 ⟨Nat.le_of_ble_eq_true rfl, Nat.le_of_ble_eq_true rfl⟩ ⟨Nat.le_of_ble_eq_true rfl, Nat.le_of_ble_eq_true rfl⟩ (rest := [.int (sX6_bridge g (xs (i + 1)) (xs (i + 2)) (xs (i + 3))).1]) rfl (Nat.le_of_ble_eq_true rfl) dL_law_228 (fun H locs hJ => ?_)
  refine lv_icmp_eq (tgt := 1004) hx hb dL_law_231 (by decide) (fun q => ?_) (fun q => ?_)
  · exact next _ _ _ ok.2.2 hJ
  · exact absurd ok.2.1 q
set_option maxHeartbeats 4000000 in
set_option maxRecDepth 100000 in
theorem lc_cart {b L i : Nat} {xs : Nat → Int32} {g : GS} (X : Cx p s m #[Value.ref b] c code 4 RL E B) (hX : va_X b L xs s s.heap) (hbl : b < s.heap.size) (hbB : b < B) (hL : L ≤ 2560) (hi : i + 5 ≤ L) (hl : lv_has ls 4 [(0, .ref b), (1, .ref (B + 0)), (2, .ref (B + 459)), (3, .int (nI i))]) (hR : RG g) (hJ : JG E B s g H locs)
    (next : ∀ (g1 : GS) (H : Heap) (locs : List Loc), RG g1 → JG E B s g1 H locs → W p l e room_1 s m #[Value.ref b] below meth c H locs 464 8551 Q (F0 m 1004 ls [])) : W p l e room_1 s m #[Value.ref b] below meth c H locs 464 8551 Q (F0 m 236 ls []) := by
  have hx := X.1
  have hb := X.2.1
  refine lv_aload_n hx hb dL_law_236 rfl (lv_at hl 1 rfl) ?_
  refine relem X hJ hX hbl hbB hL hl (k := 1) (by omega) (by decide) dL_law_237 dL_law_238 dL_law_239 dL_law_240 dL_law_241 ?_
  refine relem X hJ hX hbl hbB hL hl (k := 2) (by omega) (by decide) dL_law_242 dL_law_243 dL_law_244 dL_law_245 dL_law_246 ?_
  refine kL_23 X hJ (mX6_cart l E B g (xs (i + 1)) (xs (i + 2)) hR.1) rfl (by omega) pcT_0 hl.1 ⟨Nat.le_of_ble_eq_true rfl, Nat.le_of_ble_eq_true rfl⟩ ⟨Nat.le_of_ble_eq_true rfl, Nat.le_of_ble_eq_true rfl⟩ (rest := []) rfl (Nat.le_of_ble_eq_true rfl) dL_law_247 (fun H locs hJ => ?_)
  refine lv_aload_n hx hb dL_law_250 rfl (lv_at hl 2 rfl) ?_
  refine relem X hJ hX hbl hbB hL hl (k := 1) (by omega) (by decide) dL_law_251 dL_law_252 dL_law_253 dL_law_254 dL_law_255 ?_
  refine relem X hJ hX hbl hbB hL hl (k := 2) (by omega) (by decide) dL_law_256 dL_law_257 dL_law_258 dL_law_259 dL_law_260 ?_
  have ok : OKs g (sX6_cart g (xs (i + 1)) (xs (i + 2))) (sX7_cart (sX6_cart g (xs (i + 1)) (xs (i + 2))).2 (xs (i + 1)) (xs (i + 2))) := cart_ok hR
  have hgi := gi_of ok.1 hR
  refine kL_26 X hJ (mX7_cart l E B _ (xs (i + 1)) (xs (i + 2)) hgi.gm) rfl (by omega) pcT_459 hl.1 ⟨Nat.le_of_ble_eq_true rfl, Nat.le_of_ble_eq_true rfl⟩ ⟨Nat.le_of_ble_eq_true rfl, Nat.le_of_ble_eq_true rfl⟩ (rest := [.int (sX6_cart g (xs (i + 1)) (xs (i + 2))).1]) rfl (Nat.le_of_ble_eq_true rfl) dL_law_261 (fun H locs hJ => ?_)
  refine lv_icmp_eq (tgt := 1004) hx hb dL_law_264 (by decide) (fun q => ?_) (fun q => ?_)
  · exact next _ _ _ ok.2.2 hJ
  · exact absurd ok.2.1 q
set_option maxHeartbeats 4000000 in
set_option maxRecDepth 100000 in
theorem lc_guess {b L i : Nat} {xs : Nat → Int32} {g : GS} (X : Cx p s m #[Value.ref b] c code 4 RL E B) (hX : va_X b L xs s s.heap) (hbl : b < s.heap.size) (hbB : b < B) (hL : L ≤ 2560) (hi : i + 5 ≤ L) (hl : lv_has ls 4 [(0, .ref b), (1, .ref (B + 0)), (2, .ref (B + 459)), (3, .int (nI i))]) (hR : RG g) (hJ : JG E B s g H locs)
    (next : ∀ (g1 : GS) (H : Heap) (locs : List Loc), RG g1 → JG E B s g1 H locs → W p l e room_1 s m #[Value.ref b] below meth c H locs 464 8551 Q (F0 m 1004 ls [])) : W p l e room_1 s m #[Value.ref b] below meth c H locs 464 8551 Q (F0 m 269 ls []) := by
  have hx := X.1
  have hb := X.2.1
  refine lv_aload_n hx hb dL_law_269 rfl (lv_at hl 1 rfl) ?_
  refine relem X hJ hX hbl hbB hL hl (k := 1) (by omega) (by decide) dL_law_270 dL_law_271 dL_law_272 dL_law_273 dL_law_274 ?_
  refine relem X hJ hX hbl hbB hL hl (k := 2) (by omega) (by decide) dL_law_275 dL_law_276 dL_law_277 dL_law_278 dL_law_279 ?_
  refine relem X hJ hX hbl hbB hL hl (k := 3) (by omega) (by decide) dL_law_280 dL_law_281 dL_law_282 dL_law_283 dL_law_284 ?_
  refine kL_27 X hJ (mX6_guess l E B g (xs (i + 1)) (xs (i + 2)) (xs (i + 3)) hR.1) rfl (by omega) pcT_0 hl.1 ⟨Nat.le_of_ble_eq_true rfl, Nat.le_of_ble_eq_true rfl⟩ ⟨Nat.le_of_ble_eq_true rfl, Nat.le_of_ble_eq_true rfl⟩ (rest := []) rfl (Nat.le_of_ble_eq_true rfl) dL_law_285 (fun H locs hJ => ?_)
  refine lv_aload_n hx hb dL_law_288 rfl (lv_at hl 2 rfl) ?_
  refine relem X hJ hX hbl hbB hL hl (k := 1) (by omega) (by decide) dL_law_289 dL_law_290 dL_law_291 dL_law_292 dL_law_293 ?_
  refine relem X hJ hX hbl hbB hL hl (k := 2) (by omega) (by decide) dL_law_294 dL_law_295 dL_law_296 dL_law_297 dL_law_298 ?_
  refine relem X hJ hX hbl hbB hL hl (k := 3) (by omega) (by decide) dL_law_299 dL_law_300 dL_law_301 dL_law_302 dL_law_303 ?_
  have ok : OKs g (sX6_guess g (xs (i + 1)) (xs (i + 2)) (xs (i + 3))) (sX7_guess (sX6_guess g (xs (i + 1)) (xs (i + 2)) (xs (i + 3))).2 (xs (i + 1)) (xs (i + 2)) (xs (i + 3))) := guess_ok hR
  have hgi := gi_of ok.1 hR
  refine kL_30 X hJ (mX7_guess l E B _ (xs (i + 1)) (xs (i + 2)) (xs (i + 3)) hgi) rfl (by omega) pcT_459 hl.1 ⟨Nat.le_of_ble_eq_true rfl, Nat.le_of_ble_eq_true rfl⟩ ⟨Nat.le_of_ble_eq_true rfl, Nat.le_of_ble_eq_true rfl⟩ (rest := [.int (sX6_guess g (xs (i + 1)) (xs (i + 2)) (xs (i + 3))).1]) rfl (Nat.le_of_ble_eq_true rfl) dL_law_304 (fun H locs hJ => ?_)
  refine lv_icmp_eq (tgt := 1004) hx hb dL_law_307 (by decide) (fun q => ?_) (fun q => ?_)
  · exact next _ _ _ ok.2.2 hJ
  · exact absurd ok.2.1 q
set_option maxHeartbeats 4000000 in
set_option maxRecDepth 100000 in
theorem lc_leave {b L i : Nat} {xs : Nat → Int32} {g : GS} (X : Cx p s m #[Value.ref b] c code 4 RL E B) (hX : va_X b L xs s s.heap) (hbl : b < s.heap.size) (hbB : b < B) (hL : L ≤ 2560) (hi : i + 5 ≤ L) (hl : lv_has ls 4 [(0, .ref b), (1, .ref (B + 0)), (2, .ref (B + 459)), (3, .int (nI i))]) (hR : RG g) (hJ : JG E B s g H locs)
    (next : ∀ (g1 : GS) (H : Heap) (locs : List Loc), RG g1 → JG E B s g1 H locs → W p l e room_1 s m #[Value.ref b] below meth c H locs 464 8551 Q (F0 m 1004 ls [])) : W p l e room_1 s m #[Value.ref b] below meth c H locs 464 8551 Q (F0 m 312 ls []) := by
  have hx := X.1
  have hb := X.2.1
  refine lv_aload_n hx hb dL_law_312 rfl (lv_at hl 1 rfl) ?_
  refine relem X hJ hX hbl hbB hL hl (k := 1) (by omega) (by decide) dL_law_313 dL_law_314 dL_law_315 dL_law_316 dL_law_317 ?_
  refine kL_31 X hJ (mX6_leave l E B g (xs (i + 1)) hR.1) rfl (by omega) pcT_0 hl.1 ⟨Nat.le_of_ble_eq_true rfl, Nat.le_of_ble_eq_true rfl⟩ ⟨Nat.le_of_ble_eq_true rfl, Nat.le_of_ble_eq_true rfl⟩ (rest := []) rfl (Nat.le_of_ble_eq_true rfl) dL_law_318 (fun H locs hJ => ?_)
  refine lv_aload_n hx hb dL_law_321 rfl (lv_at hl 2 rfl) ?_
  refine relem X hJ hX hbl hbB hL hl (k := 1) (by omega) (by decide) dL_law_322 dL_law_323 dL_law_324 dL_law_325 dL_law_326 ?_
  have ok : OKs g (sX6_leave g (xs (i + 1))) (sX7_leave (sX6_leave g (xs (i + 1))).2 (xs (i + 1))) := leave_ok hR
  have hgi := gi_of ok.1 hR
  refine kL_35 X hJ (mX7_leave l E B _ (xs (i + 1)) hgi.gm) rfl (by omega) pcT_459 hl.1 ⟨Nat.le_of_ble_eq_true rfl, Nat.le_of_ble_eq_true rfl⟩ ⟨Nat.le_of_ble_eq_true rfl, Nat.le_of_ble_eq_true rfl⟩ (rest := [.int (sX6_leave g (xs (i + 1))).1]) rfl (Nat.le_of_ble_eq_true rfl) dL_law_327 (fun H locs hJ => ?_)
  refine lv_icmp_eq (tgt := 1004) hx hb dL_law_330 (by decide) (fun q => ?_) (fun q => ?_)
  · exact next _ _ _ ok.2.2 hJ
  · exact absurd ok.2.1 q
set_option maxHeartbeats 4000000 in
set_option maxRecDepth 100000 in
theorem lc_hint {b L i : Nat} {xs : Nat → Int32} {g : GS} (X : Cx p s m #[Value.ref b] c code 4 RL E B) (hX : va_X b L xs s s.heap) (hbl : b < s.heap.size) (hbB : b < B) (hL : L ≤ 2560) (hi : i + 5 ≤ L) (hl : lv_has ls 4 [(0, .ref b), (1, .ref (B + 0)), (2, .ref (B + 459)), (3, .int (nI i))]) (hR : RG g) (hJ : JG E B s g H locs)
    (next : ∀ (g1 : GS) (H : Heap) (locs : List Loc), RG g1 → JG E B s g1 H locs → W p l e room_1 s m #[Value.ref b] below meth c H locs 464 8551 Q (F0 m 1004 ls [])) : W p l e room_1 s m #[Value.ref b] below meth c H locs 464 8551 Q (F0 m 335 ls []) := by
  have hx := X.1
  have hb := X.2.1
  refine lv_aload_n hx hb dL_law_335 rfl (lv_at hl 1 rfl) ?_
  refine relem X hJ hX hbl hbB hL hl (k := 1) (by omega) (by decide) dL_law_336 dL_law_337 dL_law_338 dL_law_339 dL_law_340 ?_
  refine relem X hJ hX hbl hbB hL hl (k := 2) (by omega) (by decide) dL_law_341 dL_law_342 dL_law_343 dL_law_344 dL_law_345 ?_
  refine kL_36 X hJ (mX6_hint l E B g (xs (i + 1)) (xs (i + 2)) hR.1) rfl (by omega) pcT_0 hl.1 ⟨Nat.le_of_ble_eq_true rfl, Nat.le_of_ble_eq_true rfl⟩ ⟨Nat.le_of_ble_eq_true rfl, Nat.le_of_ble_eq_true rfl⟩ (rest := []) rfl (Nat.le_of_ble_eq_true rfl) dL_law_346 (fun H locs hJ => ?_)
  refine lv_aload_n hx hb dL_law_349 rfl (lv_at hl 2 rfl) ?_
  refine relem X hJ hX hbl hbB hL hl (k := 1) (by omega) (by decide) dL_law_350 dL_law_351 dL_law_352 dL_law_353 dL_law_354 ?_
  refine relem X hJ hX hbl hbB hL hl (k := 2) (by omega) (by decide) dL_law_355 dL_law_356 dL_law_357 dL_law_358 dL_law_359 ?_
  have ok : OKs g (sX6_hint g (xs (i + 1)) (xs (i + 2))) (sX7_hint (sX6_hint g (xs (i + 1)) (xs (i + 2))).2 (xs (i + 1)) (xs (i + 2))) := hint_ok hR
  have hgi := gi_of ok.1 hR
  refine kL_39 X hJ (mX7_hint l E B _ (xs (i + 1)) (xs (i + 2)) hgi.gm) rfl (by omega) pcT_459 hl.1 ⟨Nat.le_of_ble_eq_true rfl, Nat.le_of_ble_eq_true rfl⟩ ⟨Nat.le_of_ble_eq_true rfl, Nat.le_of_ble_eq_true rfl⟩ (rest := [.int (sX6_hint g (xs (i + 1)) (xs (i + 2))).1]) rfl (Nat.le_of_ble_eq_true rfl) dL_law_360 (fun H locs hJ => ?_)
  refine lv_icmp_eq (tgt := 1004) hx hb dL_law_363 (by decide) (fun q => ?_) (fun q => ?_)
  · exact next _ _ _ ok.2.2 hJ
  · exact absurd ok.2.1 q
set_option maxHeartbeats 4000000 in
set_option maxRecDepth 100000 in
theorem lc_pass {b L i : Nat} {xs : Nat → Int32} {g : GS} (X : Cx p s m #[Value.ref b] c code 4 RL E B) (hX : va_X b L xs s s.heap) (hbl : b < s.heap.size) (hbB : b < B) (hL : L ≤ 2560) (hi : i + 5 ≤ L) (hl : lv_has ls 4 [(0, .ref b), (1, .ref (B + 0)), (2, .ref (B + 459)), (3, .int (nI i))]) (hR : RG g) (hJ : JG E B s g H locs)
    (next : ∀ (g1 : GS) (H : Heap) (locs : List Loc), RG g1 → JG E B s g1 H locs → W p l e room_1 s m #[Value.ref b] below meth c H locs 464 8551 Q (F0 m 1004 ls [])) : W p l e room_1 s m #[Value.ref b] below meth c H locs 464 8551 Q (F0 m 368 ls []) := by
  have hx := X.1
  have hb := X.2.1
  refine lv_aload_n hx hb dL_law_368 rfl (lv_at hl 1 rfl) ?_
  refine relem X hJ hX hbl hbB hL hl (k := 1) (by omega) (by decide) dL_law_369 dL_law_370 dL_law_371 dL_law_372 dL_law_373 ?_
  refine kL_40 X hJ (mX6_pass l E B g (xs (i + 1)) hR.1) rfl (by omega) pcT_0 hl.1 ⟨Nat.le_of_ble_eq_true rfl, Nat.le_of_ble_eq_true rfl⟩ ⟨Nat.le_of_ble_eq_true rfl, Nat.le_of_ble_eq_true rfl⟩ (rest := []) rfl (Nat.le_of_ble_eq_true rfl) dL_law_374 (fun H locs hJ => ?_)
  refine lv_aload_n hx hb dL_law_377 rfl (lv_at hl 2 rfl) ?_
  refine relem X hJ hX hbl hbB hL hl (k := 1) (by omega) (by decide) dL_law_378 dL_law_379 dL_law_380 dL_law_381 dL_law_382 ?_
  have ok : OKs g (sX6_pass g (xs (i + 1))) (sX7_pass (sX6_pass g (xs (i + 1))).2 (xs (i + 1))) := pass_ok hR
  have hgi := gi_of ok.1 hR
  refine kL_43 X hJ (mX7_pass l E B _ (xs (i + 1)) hgi.gm) rfl (by omega) pcT_459 hl.1 ⟨Nat.le_of_ble_eq_true rfl, Nat.le_of_ble_eq_true rfl⟩ ⟨Nat.le_of_ble_eq_true rfl, Nat.le_of_ble_eq_true rfl⟩ (rest := [.int (sX6_pass g (xs (i + 1))).1]) rfl (Nat.le_of_ble_eq_true rfl) dL_law_383 (fun H locs hJ => ?_)
  refine lv_icmp_eq (tgt := 1004) hx hb dL_law_386 (by decide) (fun q => ?_) (fun q => ?_)
  · exact next _ _ _ ok.2.2 hJ
  · exact absurd ok.2.1 q
end LC1
