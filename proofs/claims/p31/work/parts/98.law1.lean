section LW
variable {P_ : Program} {l : Launch} {e_ : Env} {s_ : State} {m_ : MethodId} {below : List Frame} {meth : Method} {cd : Code} {Q : State → Prop} {E : EE} {B b L : Nat} {xs : Nat → Int32}

set_option maxHeartbeats 4000000 in
set_option maxRecDepth 100000 in
theorem law_366 (X : Cx P_ s_ m_ #[Value.ref b] cd code 10 RL E B) {k : Nat} (hk : k < 36) {x y : Int32} {g : GS} (hLI : LI (k + 1) g) {H : Heap} {locs : List Loc} {ls : Array Slot} (hJ : JG E B s_ g H locs) (hl : lv_has ls 10 [(0, .ref b), (1, .ref (B + 0)), (2, .int 1), (3, .int (nI k)), (4, .int x), (5, .int y)])
    (next : ∀ (g' : GS) (H : Heap) (locs : List Loc) (ls : Array Slot), LI (k + 1) g' → JG E B s_ g' H locs → lv_has ls 10 [(0, .ref b), (1, .ref (B + 0)), (2, .int 1), (3, .int (nI (k + 1)))] → W P_ l e_ room_1 s_ m_ #[Value.ref b] below meth cd H locs 459 4850 Q (F0 m_ 115 ls [])) : W P_ l e_ room_1 s_ m_ #[Value.ref b] below meth cd H locs 459 4850 Q (F0 m_ 366 ls []) := by
  have hx := X.1
  have hb := X.2.1
  have hgn := hLI.2.2.1
  refine lv_iload_n hx hb dL_law_366 rfl (lv_at hl 3 rfl) ?_
  refine lv_bipush (v := 6) hx hb dL_law_367 (by decide) ?_
  refine lv_irem hx hb dL_law_369 (by decide) ?_
  refine lv_if_gt (tgt := 395) hx hb dL_law_370 (by decide) (fun c_370 => ?_) (fun c_370 => ?_)
  · skip
    refine lv_iconst (v := 1) hx hb dL_law_395 (by decide) ?_
    refine lv_goto (tgt := 400) hx hb dL_law_396 (by decide) ?_
    refine lv_istore_n (lv' := [(2, .int 1), (0, .ref b), (1, .ref (B + 0)), (3, .int (nI k)), (4, .int x), (5, .int y)]) hx hb dL_law_400 rfl hl (by decide) rfl (fun ls hl => ?_)
    refine lv_iinc (v := nI (k + 1)) (lv' := [(3, .int (nI (k + 1))), (2, .int 1), (0, .ref b), (1, .ref (B + 0)), (4, .int x), (5, .int y)]) hx hb dL_law_401 hl (k := 3) rfl (by first | exact nI_add _ _ | rfl) (by decide) rfl (fun ls hl => ?_)
    refine lv_goto (tgt := 115) hx hb dL_law_404 (by decide) ?_
    exact next _ _ _ _ hLI hJ (lv_sub hl [2, 3, 1, 0] rfl)
  · skip
    refine lv_aload_n hx hb dL_law_373 rfl (lv_at hl 1 rfl) ?_
    refine lv_iload hx hb dL_law_374 (lv_at hl 4 rfl) ?_
    refine lv_bipush (v := 7) hx hb dL_law_376 (by decide) ?_
    refine lv_ishr hx hb dL_law_378 ?_
    refine lv_aload_n hx hb dL_law_379 rfl (lv_at hl 1 rfl) ?_
    refine lv_iconst (v := 2) hx hb dL_law_380 (by decide) ?_
    refine kL_10 X hJ (mX6_count l E B g 2 (hgn)) rfl (by omega) at_X hl.1 ⟨Nat.le_of_ble_eq_true rfl, Nat.le_of_ble_eq_true rfl⟩ ⟨Nat.le_of_ble_eq_true rfl, Nat.le_of_ble_eq_true rfl⟩ (rest := [.int (x >>> (7 &&& 31)), .ref (B + 0)]) rfl (Nat.le_of_ble_eq_true rfl) dL_law_381 (fun H locs hJ => ?_)
    refine lv_iconst (v := 1) hx hb dL_law_384 (by decide) ?_
    refine lv_iadd hx hb dL_law_385 ?_
    refine kL_45 X hJ (mL_low l E B _ (x >>> (7 &&& 31)) ((sX6_count g 2) + 1) (cnt1 hgn)) rfl hl.1 ⟨Nat.le_of_ble_eq_true rfl, Nat.le_of_ble_eq_true rfl⟩ ⟨Nat.le_of_ble_eq_true rfl, Nat.le_of_ble_eq_true rfl⟩ (rest := [.ref (B + 0)]) rfl (Nat.le_of_ble_eq_true rfl) dL_law_386 (fun H locs hJ => ?_)
    refine kL_118 X hJ (mL_notes l E B g (sL_low (x >>> (7 &&& 31)) ((sX6_count g 2) + 1)) (hgn)) rfl hl.1 ⟨Nat.le_of_ble_eq_true rfl, Nat.le_of_ble_eq_true rfl⟩ ⟨Nat.le_of_ble_eq_true rfl, Nat.le_of_ble_eq_true rfl⟩ (rest := []) rfl (Nat.le_of_ble_eq_true rfl) dL_law_389 (fun H locs hJ => ?_)
    obtain ⟨g1, e1, hL1⟩ := notes_LI (z := x >>> (7 &&& 31)) hLI
    have a1 : (sL_notes g (sL_low (x >>> (7 &&& 31)) ((sX6_count g 2) + 1))).1 = 1 := by rw [e1]
    have b1 : (sL_notes g (sL_low (x >>> (7 &&& 31)) ((sX6_count g 2) + 1))).2 = g1 := by rw [e1]
    rw [a1]
    rw [b1] at hJ
    have hgn := hL1.2.2.1
    refine lv_if_eq (tgt := 399) hx hb dL_law_392 (by decide) (fun c_392 => ?_) (fun c_392 => ?_)
    · exact absurd c_392 (by decide)
    · skip
      refine lv_iconst (v := 1) hx hb dL_law_395 (by decide) ?_
      refine lv_goto (tgt := 400) hx hb dL_law_396 (by decide) ?_
      refine lv_istore_n (lv' := [(2, .int 1), (0, .ref b), (1, .ref (B + 0)), (3, .int (nI k)), (4, .int x), (5, .int y)]) hx hb dL_law_400 rfl hl (by decide) rfl (fun ls hl => ?_)
      refine lv_iinc (v := nI (k + 1)) (lv' := [(3, .int (nI (k + 1))), (2, .int 1), (0, .ref b), (1, .ref (B + 0)), (4, .int x), (5, .int y)]) hx hb dL_law_401 hl (k := 3) rfl (by first | exact nI_add _ _ | rfl) (by decide) rfl (fun ls hl => ?_)
      refine lv_goto (tgt := 115) hx hb dL_law_404 (by decide) ?_
      exact next _ _ _ _ hL1 hJ (lv_sub hl [2, 3, 1, 0] rfl)
set_option maxHeartbeats 4000000 in
set_option maxRecDepth 100000 in
theorem law_299 (X : Cx P_ s_ m_ #[Value.ref b] cd code 10 RL E B) {k : Nat} (hk : k < 36) {x y : Int32} {g : GS} (hLI : LI (k + 1) g) {H : Heap} {locs : List Loc} {ls : Array Slot} (hJ : JG E B s_ g H locs) (hl : lv_has ls 10 [(0, .ref b), (1, .ref (B + 0)), (2, .int 1), (3, .int (nI k)), (4, .int x), (5, .int y)])
    (next : ∀ (g' : GS) (H : Heap) (locs : List Loc) (ls : Array Slot), LI (k + 1) g' → JG E B s_ g' H locs → lv_has ls 10 [(0, .ref b), (1, .ref (B + 0)), (2, .int 1), (3, .int (nI (k + 1)))] → W P_ l e_ room_1 s_ m_ #[Value.ref b] below meth cd H locs 459 4850 Q (F0 m_ 115 ls [])) : W P_ l e_ room_1 s_ m_ #[Value.ref b] below meth cd H locs 459 4850 Q (F0 m_ 299 ls []) := by
  have hx := X.1
  have hb := X.2.1
  have hgn := hLI.2.2.1
  refine lv_iload_n hx hb dL_law_299 rfl (lv_at hl 2 rfl) ?_
  refine lv_if_eq (tgt := 399) hx hb dL_law_300 (by decide) (fun c_300 => ?_) (fun c_300 => ?_)
  · exact absurd c_300 (by decide)
  · skip
    refine lv_aload_n hx hb dL_law_303 rfl (lv_at hl 1 rfl) ?_
    refine kL_60 X hJ (mL_hangs l E B g (hgn)) rfl hl.1 ⟨Nat.le_of_ble_eq_true rfl, Nat.le_of_ble_eq_true rfl⟩ ⟨Nat.le_of_ble_eq_true rfl, Nat.le_of_ble_eq_true rfl⟩ (rest := []) rfl (Nat.le_of_ble_eq_true rfl) dL_law_304 (fun H locs hJ => ?_)
    obtain ⟨g1, e1, hL1⟩ := hangs_LI hLI (by omega)
    have a1 : (sL_hangs g).1 = 1 := by rw [e1]
    have b1 : (sL_hangs g).2 = g1 := by rw [e1]
    rw [a1]
    rw [b1] at hJ
    have hgn := hL1.2.2.1
    refine lv_if_eq (tgt := 399) hx hb dL_law_307 (by decide) (fun c_307 => ?_) (fun c_307 => ?_)
    · exact absurd c_307 (by decide)
    · skip
      refine lv_aload_n hx hb dL_law_310 rfl (lv_at hl 1 rfl) ?_
      refine lv_iload hx hb dL_law_311 (lv_at hl 5 rfl) ?_
      refine lv_iconst (v := 3) hx hb dL_law_313 (by decide) ?_
      refine lv_ishr hx hb dL_law_314 ?_
      refine lv_iconst (v := 5) hx hb dL_law_315 (by decide) ?_
      refine kL_45 X hJ (mL_low l E B _ (y >>> (3 &&& 31)) 5 (by decide)) rfl hl.1 ⟨Nat.le_of_ble_eq_true rfl, Nat.le_of_ble_eq_true rfl⟩ ⟨Nat.le_of_ble_eq_true rfl, Nat.le_of_ble_eq_true rfl⟩ (rest := [.ref (B + 0)]) rfl (Nat.le_of_ble_eq_true rfl) dL_law_316 (fun H locs hJ => ?_)
      refine lv_iload hx hb dL_law_319 (lv_at hl 5 rfl) ?_
      refine lv_bipush (v := 6) hx hb dL_law_321 (by decide) ?_
      refine lv_ishr hx hb dL_law_323 ?_
      refine lv_iconst (v := 4) hx hb dL_law_324 (by decide) ?_
      refine kL_45 X hJ (mL_low l E B _ (y >>> (6 &&& 31)) 4 (by decide)) rfl hl.1 ⟨Nat.le_of_ble_eq_true rfl, Nat.le_of_ble_eq_true rfl⟩ ⟨Nat.le_of_ble_eq_true rfl, Nat.le_of_ble_eq_true rfl⟩ (rest := [.int (sL_low (y >>> (3 &&& 31)) 5), .ref (B + 0)]) rfl (Nat.le_of_ble_eq_true rfl) dL_law_325 (fun H locs hJ => ?_)
      refine lv_iload hx hb dL_law_328 (lv_at hl 4 rfl) ?_
      refine lv_iconst (v := 2) hx hb dL_law_330 (by decide) ?_
      refine lv_ishr hx hb dL_law_331 ?_
      refine kL_111 X hJ (mL_guesses l E B g1 (sL_low (y >>> (3 &&& 31)) 5) (sL_low (y >>> (6 &&& 31)) 4) (x >>> (2 &&& 31)) (hgn) (hL1.1.zn)) rfl hl.1 ⟨Nat.le_of_ble_eq_true rfl, Nat.le_of_ble_eq_true rfl⟩ ⟨Nat.le_of_ble_eq_true rfl, Nat.le_of_ble_eq_true rfl⟩ (rest := []) rfl (Nat.le_of_ble_eq_true rfl) dL_law_332 (fun H locs hJ => ?_)
      rw [guesses_LI hL1]
      refine lv_if_eq (tgt := 399) hx hb dL_law_335 (by decide) (fun c_335 => ?_) (fun c_335 => ?_)
      · exact absurd c_335 (by decide)
      · skip
        refine lv_iload_n hx hb dL_law_338 rfl (lv_at hl 3 rfl) ?_
        refine lv_iconst (v := 4) hx hb dL_law_339 (by decide) ?_
        refine lv_irem hx hb dL_law_340 (by decide) ?_
        refine lv_if_gt (tgt := 366) hx hb dL_law_341 (by decide) (fun c_341 => ?_) (fun c_341 => ?_)
        · skip
          exact law_366 X hk hL1 hJ (lv_sub hl [0, 1, 2, 3, 4, 5] rfl) next
        · skip
          refine lv_aload_n hx hb dL_law_344 rfl (lv_at hl 1 rfl) ?_
          refine lv_iconst (v := 1) hx hb dL_law_345 (by decide) ?_
          refine lv_iload hx hb dL_law_346 (lv_at hl 5 rfl) ?_
          refine lv_iconst (v := 1) hx hb dL_law_348 (by decide) ?_
          refine lv_ishr hx hb dL_law_349 ?_
          refine lv_bipush (v := 12) hx hb dL_law_350 (by decide) ?_
          refine kL_45 X hJ (mL_low l E B _ (y >>> (1 &&& 31)) 12 (by decide)) rfl hl.1 ⟨Nat.le_of_ble_eq_true rfl, Nat.le_of_ble_eq_true rfl⟩ ⟨Nat.le_of_ble_eq_true rfl, Nat.le_of_ble_eq_true rfl⟩ (rest := [.int 1, .ref (B + 0)]) rfl (Nat.le_of_ble_eq_true rfl) dL_law_352 (fun H locs hJ => ?_)
          refine lv_iadd hx hb dL_law_355 ?_
          refine lv_iload hx hb dL_law_356 (lv_at hl 4 rfl) ?_
          refine lv_iconst (v := 5) hx hb dL_law_358 (by decide) ?_
          refine lv_ishr hx hb dL_law_359 ?_
          refine kL_115 X hJ (mL_waits l E B g1 ((1 : Int32) + (sL_low (y >>> (1 &&& 31)) 12)) (x >>> (5 &&& 31)) (hgn)) rfl hl.1 ⟨Nat.le_of_ble_eq_true rfl, Nat.le_of_ble_eq_true rfl⟩ ⟨Nat.le_of_ble_eq_true rfl, Nat.le_of_ble_eq_true rfl⟩ (rest := []) rfl (Nat.le_of_ble_eq_true rfl) dL_law_360 (fun H locs hJ => ?_)
          obtain ⟨g2, e2, hL2⟩ := waits_LI (y := y) (z := x >>> (5 &&& 31)) hL1 (by omega)
          have a2 : (sL_waits g1 ((1 : Int32) + (sL_low (y >>> (1 &&& 31)) 12)) (x >>> (5 &&& 31))).1 = 1 := by rw [e2]
          have b2 : (sL_waits g1 ((1 : Int32) + (sL_low (y >>> (1 &&& 31)) 12)) (x >>> (5 &&& 31))).2 = g2 := by rw [e2]
          rw [a2]
          rw [b2] at hJ
          have hgn := hL2.2.2.1
          refine lv_if_eq (tgt := 399) hx hb dL_law_363 (by decide) (fun c_363 => ?_) (fun c_363 => ?_)
          · exact absurd c_363 (by decide)
          · skip
            exact law_366 X hk hL2 hJ (lv_sub hl [0, 1, 2, 3, 4, 5] rfl) next
set_option maxHeartbeats 4000000 in
set_option maxRecDepth 100000 in
theorem law_125 (X : Cx P_ s_ m_ #[Value.ref b] cd code 10 RL E B) (hX : va_X b L xs s_ s_.heap) (hbl : b < s_.heap.size) (hbB : b < B) (hL : L ≤ 260) {k : Nat} (hk : k < 36) {g : GS} (hLI : LI k g) {H : Heap} {locs : List Loc} {ls : Array Slot} (hJ : JG E B s_ g H locs) (hl : lv_has ls 10 [(0, .ref b), (1, .ref (B + 0)), (2, .int 1), (3, .int (nI k))])
    (next : ∀ (g' : GS) (H : Heap) (locs : List Loc) (ls : Array Slot), LI (k + 1) g' → JG E B s_ g' H locs → lv_has ls 10 [(0, .ref b), (1, .ref (B + 0)), (2, .int 1), (3, .int (nI (k + 1)))] → W P_ l e_ room_1 s_ m_ #[Value.ref b] below meth cd H locs 459 4850 Q (F0 m_ 115 ls [])) : W P_ l e_ room_1 s_ m_ #[Value.ref b] below meth cd H locs 459 4850 Q (F0 m_ 125 ls []) := by
  have hx := X.1
  have hb := X.2.1
  have hgn := hLI.2.2.1
  refine lv_aload_n hx hb dL_law_125 rfl (lv_at hl 0 rfl) ?_
  refine lv_iconst (v := 5) hx hb dL_law_126 (by decide) ?_
  refine lv_iconst (v := 2) hx hb dL_law_127 (by decide) ?_
  refine lv_iload_n hx hb dL_law_128 rfl (lv_at hl 3 rfl) ?_
  refine ximul (z := nI (2 * k)) hx hb dL_law_129 (nI_mul 2 k) ?_
  refine xiadd (z := nI (5 + 2 * k)) hx hb dL_law_130 (nI_add 5 (2 * k)) ?_
  refine rcell X hJ hX hbl hbB hL (k := 5 + 2 * k) rfl (by omega) hl.1 ⟨Nat.le_of_ble_eq_true rfl, Nat.le_of_ble_eq_true rfl⟩ ⟨Nat.le_of_ble_eq_true rfl, Nat.le_of_ble_eq_true rfl⟩ (rest := []) (Nat.le_of_ble_eq_true rfl) dL_law_131 (fun H locs hJ => ?_)
  refine lv_topi (fun x _ => ?_)
  refine lv_istore (lv' := [(4, .int x), (0, .ref b), (1, .ref (B + 0)), (2, .int 1), (3, .int (nI k))]) hx hb dL_law_134 hl (by decide) rfl (fun ls hl => ?_)
  refine lv_aload_n hx hb dL_law_136 rfl (lv_at hl 1 rfl) ?_
  refine lv_bipush (v := 6) hx hb dL_law_137 (by decide) ?_
  refine lv_iconst (v := 2) hx hb dL_law_139 (by decide) ?_
  refine lv_iload_n hx hb dL_law_140 rfl (lv_at hl 4 rfl) ?_
  refine ximul (z := nI (2 * k)) hx hb dL_law_141 (nI_mul 2 k) ?_
  refine xiadd (z := nI (6 + 2 * k)) hx hb dL_law_142 (nI_add 6 (2 * k)) ?_
  refine rcell X hJ hX hbl hbB hL (k := 6 + 2 * k) rfl (by omega) hl.1 ⟨Nat.le_of_ble_eq_true rfl, Nat.le_of_ble_eq_true rfl⟩ ⟨Nat.le_of_ble_eq_true rfl, Nat.le_of_ble_eq_true rfl⟩ (rest := []) (Nat.le_of_ble_eq_true rfl) dL_law_143 (fun H locs hJ => ?_)
  refine lv_topi (fun y _ => ?_)
  refine lv_istore (lv' := [(5, .int y), (4, .int x), (0, .ref b), (1, .ref (B + 0)), (2, .int 1), (3, .int (nI k))]) hx hb dL_law_146 hl (by decide) rfl (fun ls hl => ?_)
  refine lv_aload_n hx hb dL_law_148 rfl (lv_at hl 3 rfl) ?_
  refine lv_bipush (v := 14) hx hb dL_law_149 (by decide) ?_
  refine kL_10 X hJ (mX6_count l E B g 14 (hgn)) rfl (by omega) at_X hl.1 ⟨Nat.le_of_ble_eq_true rfl, Nat.le_of_ble_eq_true rfl⟩ ⟨Nat.le_of_ble_eq_true rfl, Nat.le_of_ble_eq_true rfl⟩ (rest := []) rfl (Nat.le_of_ble_eq_true rfl) dL_law_151 (fun H locs hJ => ?_)
  refine lv_istore (lv' := [(6, .int (sX6_count g 14)), (5, .int y), (4, .int x), (0, .ref b), (1, .ref (B + 0)), (2, .int 1), (3, .int (nI k))]) hx hb dL_law_154 hl (by decide) rfl (fun ls hl => ?_)
  refine lv_aload_n hx hb dL_law_156 rfl (lv_at hl 4 rfl) ?_
  refine kL_53 X hJ (mL_print l E B g (hgn)) rfl hl.1 ⟨Nat.le_of_ble_eq_true rfl, Nat.le_of_ble_eq_true rfl⟩ ⟨Nat.le_of_ble_eq_true rfl, Nat.le_of_ble_eq_true rfl⟩ (rest := []) rfl (Nat.le_of_ble_eq_true rfl) dL_law_157 (fun H locs hJ => ?_)
  refine lv_lstore (lv' := [(7, .long (sL_print g)), (6, .int (sX6_count g 14)), (5, .int y), (4, .int x), (0, .ref b), (1, .ref (B + 0)), (2, .int 1), (3, .int (nI k))]) hx hb dL_law_160 hl (by decide) rfl (fun ls hl => ?_)
  refine lv_aload_n hx hb dL_law_162 rfl (lv_at hl 5 rfl) ?_
  refine lv_iload hx hb dL_law_163 (lv_at hl 3 rfl) ?_
  refine lv_iload hx hb dL_law_165 (lv_at hl 2 rfl) ?_
  refine kL_107 X hJ (mL_act l E B g x y (hgn)) rfl hl.1 ⟨Nat.le_of_ble_eq_true rfl, Nat.le_of_ble_eq_true rfl⟩ ⟨Nat.le_of_ble_eq_true rfl, Nat.le_of_ble_eq_true rfl⟩ (rest := []) rfl (Nat.le_of_ble_eq_true rfl) dL_law_167 (fun H locs hJ => ?_)
  refine lv_istore (lv' := [(9, .int ((sL_act g x y).1)), (7, .long (sL_print g)), (6, .int (sX6_count g 14)), (5, .int y), (4, .int x), (0, .ref b), (1, .ref (B + 0)), (2, .int 1), (3, .int (nI k))]) hx hb dL_law_170 hl (by decide) rfl (fun ls hl => ?_)
  refine lv_iload hx hb dL_law_172 (lv_at hl 0 rfl) ?_
  refine lv_if_ge (tgt := 207) hx hb dL_law_174 (by decide) (fun c_174 => ?_) (fun c_174 => ?_)
  · skip
    obtain ⟨y1, y2⟩ := it_yes hLI (by omega) (Int32.not_lt.mpr c_174)
    refine lv_aload_n hx hb dL_law_207 rfl (lv_at hl 6 rfl) ?_
    refine lv_bipush (v := 14) hx hb dL_law_208 (by decide) ?_
    refine kL_10 X hJ (mX6_count l E B ((sL_act g x y).2) 14 (Gn_sL_act (hgn))) rfl (by omega) at_X hl.1 ⟨Nat.le_of_ble_eq_true rfl, Nat.le_of_ble_eq_true rfl⟩ ⟨Nat.le_of_ble_eq_true rfl, Nat.le_of_ble_eq_true rfl⟩ (rest := []) rfl (Nat.le_of_ble_eq_true rfl) dL_law_210 (fun H locs hJ => ?_)
    refine lv_iload hx hb dL_law_213 (lv_at hl 2 rfl) ?_
    refine lv_bipush (v := 6) hx hb dL_law_215 (by decide) ?_
    refine lv_icmp_ge (tgt := 227) hx hb dL_law_217 (by decide) (fun c_217 => ?_) (fun c_217 => ?_)
    · skip
      have q229 := st_ge hLI c_217 y2
      refine lv_bipush (v := 6) hx hb dL_law_227 (by decide) ?_
      refine lv_icmp_ne (tgt := 236) hx hb dL_law_229 (by decide) (fun c_229 => ?_) (fun c_229 => ?_)
      · exact absurd q229 c_229
      · skip
        refine lv_iconst (v := 1) hx hb dL_law_232 (by decide) ?_
        refine lv_goto (tgt := 237) hx hb dL_law_233 (by decide) ?_
        refine lv_istore_n (lv' := [(2, .int 1), (9, .int ((sL_act g x y).1)), (7, .long (sL_print g)), (6, .int (sX6_count g 14)), (5, .int y), (4, .int x), (0, .ref b), (1, .ref (B + 0)), (3, .int (nI k))]) hx hb dL_law_237 rfl hl (by decide) rfl (fun ls hl => ?_)
        refine lv_iload_n hx hb dL_law_238 rfl (lv_at hl 0 rfl) ?_
        refine lv_if_eq (tgt := 299) hx hb dL_law_239 (by decide) (fun c_239 => ?_) (fun c_239 => ?_)
        · exact absurd c_239 (by decide)
        · skip
          refine lv_iload hx hb dL_law_242 (lv_at hl 3 rfl) ?_
          refine lv_bipush (v := 6) hx hb dL_law_244 (by decide) ?_
          refine lv_icmp_ge (tgt := 299) hx hb dL_law_246 (by decide) (fun c_246 => ?_) (fun c_246 => ?_)
          · skip
            exact law_299 X hk y1 hJ (lv_sub hl [6, 7, 0, 8, 5, 4] rfl) next
          · exact absurd c_217 c_246
    · skip
      have q229 := st_in hLI c_217 y2
      refine lv_iload hx hb dL_law_220 (lv_at hl 2 rfl) ?_
      refine lv_iconst (v := 1) hx hb dL_law_222 (by decide) ?_
      refine lv_iadd hx hb dL_law_223 ?_
      refine lv_goto (tgt := 229) hx hb dL_law_224 (by decide) ?_
      refine lv_icmp_ne (tgt := 236) hx hb dL_law_229 (by decide) (fun c_229 => ?_) (fun c_229 => ?_)
      · exact absurd q229 c_229
      · skip
        refine lv_iconst (v := 1) hx hb dL_law_232 (by decide) ?_
        refine lv_goto (tgt := 237) hx hb dL_law_233 (by decide) ?_
        refine lv_istore_n (lv' := [(2, .int 1), (9, .int ((sL_act g x y).1)), (7, .long (sL_print g)), (6, .int (sX6_count g 14)), (5, .int y), (4, .int x), (0, .ref b), (1, .ref (B + 0)), (3, .int (nI k))]) hx hb dL_law_237 rfl hl (by decide) rfl (fun ls hl => ?_)
        refine lv_iload_n hx hb dL_law_238 rfl (lv_at hl 0 rfl) ?_
        refine lv_if_eq (tgt := 299) hx hb dL_law_239 (by decide) (fun c_239 => ?_) (fun c_239 => ?_)
        · exact absurd c_239 (by decide)
        · skip
          refine lv_iload hx hb dL_law_242 (lv_at hl 3 rfl) ?_
          refine lv_bipush (v := 6) hx hb dL_law_244 (by decide) ?_
          refine lv_icmp_ge (tgt := 299) hx hb dL_law_246 (by decide) (fun c_246 => ?_) (fun c_246 => ?_)
          · exact absurd c_246 c_217
          · skip
            refine lv_iload hx hb dL_law_249 (lv_at hl 5 rfl) ?_
            refine lv_bipush (v := 9) hx hb dL_law_251 (by decide) ?_
            refine lv_ishr hx hb dL_law_253 ?_
            refine lv_iconst (v := 3) hx hb dL_law_254 (by decide) ?_
            refine kL_45 X hJ (mL_low l E B _ (x >>> (9 &&& 31)) 3 (by decide)) rfl hl.1 ⟨Nat.le_of_ble_eq_true rfl, Nat.le_of_ble_eq_true rfl⟩ ⟨Nat.le_of_ble_eq_true rfl, Nat.le_of_ble_eq_true rfl⟩ (rest := []) rfl (Nat.le_of_ble_eq_true rfl) dL_law_255 (fun H locs hJ => ?_)
            refine lv_if_ne (tgt := 299) hx hb dL_law_258 (by decide) (fun c_258 => ?_) (fun c_258 => ?_)
            · skip
              exact law_299 X hk y1 hJ (lv_sub hl [6, 7, 0, 8, 5, 4] rfl) next
            · skip
              obtain ⟨z1, z2, z3, z4⟩ := it_undo hLI (by omega) (Int32.not_lt.mpr c_174) (st_lt hLI c_217)
              refine lv_aload_n hx hb dL_law_261 rfl (lv_at hl 7 rfl) ?_
              refine kL_64 X hJ (mX6_undo l E B ((sL_act g x y).2) (Gn_sL_act (hgn))) rfl (by omega) at_X hl.1 ⟨Nat.le_of_ble_eq_true rfl, Nat.le_of_ble_eq_true rfl⟩ ⟨Nat.le_of_ble_eq_true rfl, Nat.le_of_ble_eq_true rfl⟩ (rest := []) rfl (Nat.le_of_ble_eq_true rfl) dL_law_262 (fun H locs hJ => ?_)
              refine lv_iload hx hb dL_law_265 (lv_at hl 3 rfl) ?_
              refine lv_icmp_ne (tgt := 297) hx hb dL_law_267 (by decide) (fun c_267 => ?_) (fun c_267 => ?_)
              · exact absurd z1 c_267
              · skip
                refine lv_aload_n hx hb dL_law_270 rfl (lv_at hl 7 rfl) ?_
                refine kL_53 X hJ (mL_print l E B ((sX6_undo ((sL_act g x y).2)).2) (Gn_sX6_undo (Gn_sL_act (hgn)))) rfl hl.1 ⟨Nat.le_of_ble_eq_true rfl, Nat.le_of_ble_eq_true rfl⟩ ⟨Nat.le_of_ble_eq_true rfl, Nat.le_of_ble_eq_true rfl⟩ (rest := []) rfl (Nat.le_of_ble_eq_true rfl) dL_law_271 (fun H locs hJ => ?_)
                refine lv_lload hx hb dL_law_274 (lv_at hl 2 rfl) ?_
                refine W.lcmp hx hb dL_law_276 ?_
                rw [lc0 z2]
                refine lv_if_ne (tgt := 297) hx hb dL_law_277 (by decide) (fun c_277 => ?_) (fun c_277 => ?_)
                · exact absurd c_277 (by decide)
                · skip
                  refine lv_aload_n hx hb dL_law_280 rfl (lv_at hl 7 rfl) ?_
                  refine lv_iload hx hb dL_law_281 (lv_at hl 5 rfl) ?_
                  refine lv_iload hx hb dL_law_283 (lv_at hl 4 rfl) ?_
                  refine kL_107 X hJ (mL_act l E B ((sX6_undo ((sL_act g x y).2)).2) x y (Gn_sX6_undo (Gn_sL_act (hgn)))) rfl hl.1 ⟨Nat.le_of_ble_eq_true rfl, Nat.le_of_ble_eq_true rfl⟩ ⟨Nat.le_of_ble_eq_true rfl, Nat.le_of_ble_eq_true rfl⟩ (rest := []) rfl (Nat.le_of_ble_eq_true rfl) dL_law_285 (fun H locs hJ => ?_)
                  refine lv_iload hx hb dL_law_288 (lv_at hl 1 rfl) ?_
                  refine lv_icmp_ne (tgt := 297) hx hb dL_law_290 (by decide) (fun c_290 => ?_) (fun c_290 => ?_)
                  · exact absurd z3 c_290
                  · skip
                    refine lv_iconst (v := 1) hx hb dL_law_293 (by decide) ?_
                    refine lv_goto (tgt := 298) hx hb dL_law_294 (by decide) ?_
                    refine lv_istore_n (lv' := [(2, .int 1), (9, .int ((sL_act g x y).1)), (7, .long (sL_print g)), (6, .int (sX6_count g 14)), (5, .int y), (4, .int x), (0, .ref b), (1, .ref (B + 0)), (3, .int (nI k))]) hx hb dL_law_298 rfl hl (by decide) rfl (fun ls hl => ?_)
                    exact law_299 X hk z4 hJ (lv_sub hl [6, 7, 0, 8, 5, 4] rfl) next
  · skip
    obtain ⟨f1, f2, f3⟩ := it_no hLI (by omega) (Int32.not_le.mp c_174)
    refine lv_aload_n hx hb dL_law_177 rfl (lv_at hl 6 rfl) ?_
    refine lv_bipush (v := 14) hx hb dL_law_178 (by decide) ?_
    refine kL_10 X hJ (mX6_count l E B ((sL_act g x y).2) 14 (Gn_sL_act (hgn))) rfl (by omega) at_X hl.1 ⟨Nat.le_of_ble_eq_true rfl, Nat.le_of_ble_eq_true rfl⟩ ⟨Nat.le_of_ble_eq_true rfl, Nat.le_of_ble_eq_true rfl⟩ (rest := []) rfl (Nat.le_of_ble_eq_true rfl) dL_law_180 (fun H locs hJ => ?_)
    refine lv_iload hx hb dL_law_183 (lv_at hl 2 rfl) ?_
    refine lv_icmp_ne (tgt := 202) hx hb dL_law_185 (by decide) (fun c_185 => ?_) (fun c_185 => ?_)
    · exact absurd f1 c_185
    · skip
      refine lv_aload_n hx hb dL_law_188 rfl (lv_at hl 6 rfl) ?_
      refine kL_53 X hJ (mL_print l E B ((sL_act g x y).2) (Gn_sL_act (hgn))) rfl hl.1 ⟨Nat.le_of_ble_eq_true rfl, Nat.le_of_ble_eq_true rfl⟩ ⟨Nat.le_of_ble_eq_true rfl, Nat.le_of_ble_eq_true rfl⟩ (rest := []) rfl (Nat.le_of_ble_eq_true rfl) dL_law_189 (fun H locs hJ => ?_)
      refine lv_lload hx hb dL_law_192 (lv_at hl 1 rfl) ?_
      refine W.lcmp hx hb dL_law_194 ?_
      rw [lc0 f2]
      refine lv_if_ne (tgt := 202) hx hb dL_law_195 (by decide) (fun c_195 => ?_) (fun c_195 => ?_)
      · exact absurd c_195 (by decide)
      · skip
        refine lv_iconst (v := 1) hx hb dL_law_198 (by decide) ?_
        refine lv_goto (tgt := 203) hx hb dL_law_199 (by decide) ?_
        refine lv_istore_n (lv' := [(2, .int 1), (9, .int ((sL_act g x y).1)), (7, .long (sL_print g)), (6, .int (sX6_count g 14)), (5, .int y), (4, .int x), (0, .ref b), (1, .ref (B + 0)), (3, .int (nI k))]) hx hb dL_law_203 rfl hl (by decide) rfl (fun ls hl => ?_)
        refine lv_goto (tgt := 299) hx hb dL_law_204 (by decide) ?_
        exact law_299 X hk f3 hJ (lv_sub hl [6, 7, 0, 8, 5, 4] rfl) next
set_option maxHeartbeats 4000000 in
set_option maxRecDepth 100000 in
theorem law_115 (X : Cx P_ s_ m_ #[Value.ref b] cd code 10 RL E B) (hX : va_X b L xs s_ s_.heap) (hbl : b < s_.heap.size) (hbB : b < B) (hL : L ≤ 260) (fin : ∀ (g' : GS) (H : Heap) (locs : List Loc) (ls : Array Slot), JG E B s_ g' H locs → W P_ l e_ room_1 s_ m_ #[Value.ref b] below meth cd H locs 459 4850 Q (F0 m_ 423 ls [.int 1])) : ∀ (n k : Nat), k ≤ 36 → 36 - k < n → ∀ (g : GS) (H : Heap) (locs : List Loc) (ls : Array Slot), LI k g → JG E B s_ g H locs → lv_has ls 10 [(0, .ref b), (1, .ref (B + 0)), (2, .int 1), (3, .int (nI k))] → W P_ l e_ room_1 s_ m_ #[Value.ref b] below meth cd H locs 459 4850 Q (F0 m_ 115 ls []) := by
  have hx := X.1
  have hb := X.2.1
  intro n
  induction n with
  | zero => intro k _ q; exact absurd q (Nat.not_lt_zero _)
  | succ n ih =>
    intro k hk hn g H locs ls hLI hJ hl
    have hgn := hLI.2.2.1
    refine lv_iload_n hx hb dL_law_115 rfl (lv_at hl 3 rfl) ?_
    refine lv_bipush (v := 36) hx hb dL_law_116 (by decide) ?_
    refine lv_icmp_ge (tgt := 407) hx hb dL_law_118 (by decide) (fun c_118 => ?_) (fun c_118 => ?_)
    · skip
      refine lv_iload_n hx hb dL_law_407 rfl (lv_at hl 2 rfl) ?_
      refine lv_if_eq (tgt := 422) hx hb dL_law_408 (by decide) (fun c_408 => ?_) (fun c_408 => ?_)
      · exact absurd c_408 (by decide)
      · skip
        refine lv_aload_n hx hb dL_law_411 rfl (lv_at hl 1 rfl) ?_
        refine kL_60 X hJ (mL_hangs l E B g (hgn)) rfl hl.1 ⟨Nat.le_of_ble_eq_true rfl, Nat.le_of_ble_eq_true rfl⟩ ⟨Nat.le_of_ble_eq_true rfl, Nat.le_of_ble_eq_true rfl⟩ (rest := []) rfl (Nat.le_of_ble_eq_true rfl) dL_law_412 (fun H locs hJ => ?_)
        obtain ⟨g1, e1, hL1⟩ := hangs_LI hLI (by omega)
        have a1 : (sL_hangs g).1 = 1 := by rw [e1]
        have b1 : (sL_hangs g).2 = g1 := by rw [e1]
        rw [a1]
        rw [b1] at hJ
        have hgn := hL1.2.2.1
        refine lv_if_eq (tgt := 422) hx hb dL_law_415 (by decide) (fun c_415 => ?_) (fun c_415 => ?_)
        · exact absurd c_415 (by decide)
        · skip
          refine lv_iconst (v := 1) hx hb dL_law_418 (by decide) ?_
          refine lv_goto (tgt := 423) hx hb dL_law_419 (by decide) ?_
          exact fin _ _ _ _ hJ
    · skip
      have hk36 : k < 36 := lit_lt (n := 36) c_118 (by omega) (by omega)
      refine lv_iload_n hx hb dL_law_121 rfl (lv_at hl 2 rfl) ?_
      refine lv_if_eq (tgt := 407) hx hb dL_law_122 (by decide) (fun c_122 => ?_) (fun c_122 => ?_)
      · exact absurd c_122 (by decide)
      · skip
        exact law_125 X hX hbl hbB hL hk36 hLI hJ (lv_sub hl [0, 1, 2, 3] rfl) (fun g' H locs ls hL' hJ hl => ih (k + 1) (by omega) (by omega) g' H locs ls hL' hJ hl)
set_option maxHeartbeats 4000000 in
set_option maxRecDepth 100000 in
theorem law_8 (X : Cx P_ s_ m_ #[Value.ref b] cd code 10 RL E B) (hX : va_X b L xs s_ s_.heap) (hbl : b < s_.heap.size) (hbB : b < B) (hL : L ≤ 260) (fin : ∀ (g' : GS) (H : Heap) (locs : List Loc) (ls : Array Slot), JG E B s_ g' H locs → W P_ l e_ room_1 s_ m_ #[Value.ref b] below meth cd H locs 459 4850 Q (F0 m_ 423 ls [.int 1])) {H : Heap} {locs : List Loc} {ls : Array Slot} (hJ : JG E B s_ g0 H locs) (hl : lv_has ls 10 [(0, .ref b), (1, .ref (B + 0))]) : W P_ l e_ room_1 s_ m_ #[Value.ref b] below meth cd H locs 459 4850 Q (F0 m_ 8 ls []) := by
  have hx := X.1
  have hb := X.2.1
  have hgn := LI_g0.2.2.1
  have z5 : nn (g0.1 0 5) = 0 := by decide
  have z6 : nn (g0.1 0 6) = 0 := by decide
  refine lv_aload_n hx hb dL_law_8 rfl (lv_at hl 1 rfl) ?_
  refine lv_iconst (v := 0) hx hb dL_law_9 (by decide) ?_
  refine lv_iconst (v := 1) hx hb dL_law_10 (by decide) ?_
  refine lv_iconst (v := 2) hx hb dL_law_11 (by decide) ?_
  refine lv_aload_n hx hb dL_law_12 rfl (lv_at hl 0 rfl) ?_
  refine lv_iconst (v := 0) hx hb dL_law_13 (by decide) ?_
  refine rcell X hJ hX hbl hbB hL (k := 0) rfl (by omega) hl.1 ⟨Nat.le_of_ble_eq_true rfl, Nat.le_of_ble_eq_true rfl⟩ ⟨Nat.le_of_ble_eq_true rfl, Nat.le_of_ble_eq_true rfl⟩ (rest := [.int 2, .int 1, .int 0, .ref (B + 0)]) (Nat.le_of_ble_eq_true rfl) dL_law_14 (fun H locs hJ => ?_)
  refine lv_bipush (v := 12) hx hb dL_law_17 (by decide) ?_
  refine kL_45 X hJ (mL_low l E B _ (cellv xs L 0) 12 (by decide)) rfl hl.1 ⟨Nat.le_of_ble_eq_true rfl, Nat.le_of_ble_eq_true rfl⟩ ⟨Nat.le_of_ble_eq_true rfl, Nat.le_of_ble_eq_true rfl⟩ (rest := [.int 2, .int 1, .int 0, .ref (B + 0)]) rfl (Nat.le_of_ble_eq_true rfl) dL_law_19 (fun H locs hJ => ?_)
  refine lv_iadd hx hb dL_law_22 ?_
  refine kL_84 X hJ (mX6_bridge l E B g0 0 1 ((2 : Int32) + (sL_low (cellv xs L 0) 12)) (hgn)) rfl (by omega) at_X hl.1 ⟨Nat.le_of_ble_eq_true rfl, Nat.le_of_ble_eq_true rfl⟩ ⟨Nat.le_of_ble_eq_true rfl, Nat.le_of_ble_eq_true rfl⟩ (rest := []) rfl (Nat.le_of_ble_eq_true rfl) dL_law_23 (fun H locs hJ => ?_)
  have T1 : (sX6_bridge g0 0 1 ((2 : Int32) + (sL_low (cellv xs L 0) 12))).1 = 0 ∧ LI 0 (sX6_bridge g0 0 1 ((2 : Int32) + (sL_low (cellv xs L 0) 12))).2 ∧ nn ((sX6_bridge g0 0 1 ((2 : Int32) + (sL_low (cellv xs L 0) 12))).2.1 0 5) = 1 ∧ (sX6_bridge g0 0 1 ((2 : Int32) + (sL_low (cellv xs L 0) 12))).2.1 0 6 = g0.1 0 6 := start_b (p := 0) (q := 1) (r := 0) (z := cellv xs L 0) (m := 12) LI_g0 ⟨by decide, by decide⟩ ⟨by decide, by decide⟩ (by decide) z5 (by omega) (by omega) (by omega)
  obtain ⟨t1, u1, v1, w1⟩ := T1
  obtain ⟨G1, eG1⟩ : ∃ G, G = (sX6_bridge g0 0 1 ((2 : Int32) + (sL_low (cellv xs L 0) 12))).2 := ⟨_, rfl⟩
  rw [← eG1] at hJ u1 v1 w1
  rw [t1]
  have hgn := u1.2.2.1
  refine lv_if_ne (tgt := 55) hx hb dL_law_26 (by decide) (fun c_26 => ?_) (fun c_26 => ?_)
  · exact absurd c_26 (by decide)
  · skip
    refine lv_aload_n hx hb dL_law_29 rfl (lv_at hl 1 rfl) ?_
    refine lv_iconst (v := 1) hx hb dL_law_30 (by decide) ?_
    refine lv_iconst (v := 0) hx hb dL_law_31 (by decide) ?_
    refine lv_iconst (v := 2) hx hb dL_law_32 (by decide) ?_
    refine lv_aload_n hx hb dL_law_33 rfl (lv_at hl 0 rfl) ?_
    refine lv_iconst (v := 1) hx hb dL_law_34 (by decide) ?_
    refine rcell X hJ hX hbl hbB hL (k := 1) rfl (by omega) hl.1 ⟨Nat.le_of_ble_eq_true rfl, Nat.le_of_ble_eq_true rfl⟩ ⟨Nat.le_of_ble_eq_true rfl, Nat.le_of_ble_eq_true rfl⟩ (rest := [.int 2, .int 0, .int 1, .ref (B + 0)]) (Nat.le_of_ble_eq_true rfl) dL_law_35 (fun H locs hJ => ?_)
    refine lv_bipush (v := 60) hx hb dL_law_38 (by decide) ?_
    refine kL_45 X hJ (mL_low l E B _ (cellv xs L 1) 60 (by decide)) rfl hl.1 ⟨Nat.le_of_ble_eq_true rfl, Nat.le_of_ble_eq_true rfl⟩ ⟨Nat.le_of_ble_eq_true rfl, Nat.le_of_ble_eq_true rfl⟩ (rest := [.int 2, .int 0, .int 1, .ref (B + 0)]) rfl (Nat.le_of_ble_eq_true rfl) dL_law_40 (fun H locs hJ => ?_)
    refine lv_iadd hx hb dL_law_43 ?_
    refine kL_84 X hJ (mX6_bridge l E B G1 1 0 ((2 : Int32) + (sL_low (cellv xs L 1) 60)) (hgn)) rfl (by omega) at_X hl.1 ⟨Nat.le_of_ble_eq_true rfl, Nat.le_of_ble_eq_true rfl⟩ ⟨Nat.le_of_ble_eq_true rfl, Nat.le_of_ble_eq_true rfl⟩ (rest := []) rfl (Nat.le_of_ble_eq_true rfl) dL_law_44 (fun H locs hJ => ?_)
    have T2 : (sX6_bridge G1 1 0 ((2 : Int32) + (sL_low (cellv xs L 1) 60))).1 = 1 ∧ LI 0 (sX6_bridge G1 1 0 ((2 : Int32) + (sL_low (cellv xs L 1) 60))).2 ∧ nn ((sX6_bridge G1 1 0 ((2 : Int32) + (sL_low (cellv xs L 1) 60))).2.1 0 5) = 2 ∧ (sX6_bridge G1 1 0 ((2 : Int32) + (sL_low (cellv xs L 1) 60))).2.1 0 6 = G1.1 0 6 := start_b (p := 1) (q := 0) (r := 1) (z := cellv xs L 1) (m := 60) u1 ⟨by decide, by decide⟩ ⟨by decide, by decide⟩ (by decide) v1 (by omega) (by omega) (by omega)
    obtain ⟨t2, u2, v2, w2⟩ := T2
    obtain ⟨G2, eG2⟩ : ∃ G, G = (sX6_bridge G1 1 0 ((2 : Int32) + (sL_low (cellv xs L 1) 60))).2 := ⟨_, rfl⟩
    rw [← eG2] at hJ u2 v2 w2
    rw [t2]
    have hgn := u2.2.2.1
    refine lv_iconst (v := 1) hx hb dL_law_47 (by decide) ?_
    refine lv_icmp_ne (tgt := 55) hx hb dL_law_48 (by decide) (fun c_48 => ?_) (fun c_48 => ?_)
    · exact absurd c_48 (by decide)
    · skip
      refine lv_iconst (v := 1) hx hb dL_law_51 (by decide) ?_
      refine lv_goto (tgt := 56) hx hb dL_law_52 (by decide) ?_
      refine lv_istore_n (lv' := [(2, .int 1), (0, .ref b), (1, .ref (B + 0))]) hx hb dL_law_56 rfl hl (by decide) rfl (fun ls hl => ?_)
      refine lv_iconst (v := 0) hx hb dL_law_57 (by decide) ?_
      refine lv_istore_n (lv' := [(3, .int 0), (2, .int 1), (0, .ref b), (1, .ref (B + 0))]) hx hb dL_law_58 rfl hl (by decide) rfl (fun ls hl => ?_)
      refine lv_iload_n hx hb dL_law_59 rfl (lv_at hl 0 rfl) ?_
      refine lv_iconst (v := 3) hx hb dL_law_60 (by decide) ?_
      refine lv_icmp_ge (tgt := 113) hx hb dL_law_61 (by decide) (fun c_61 => ?_) (fun c_61 => ?_)
      · exact absurd c_61 (by decide)
      · skip
        refine lv_iload_n hx hb dL_law_64 rfl (lv_at hl 1 rfl) ?_
        refine lv_if_eq (tgt := 105) hx hb dL_law_65 (by decide) (fun c_65 => ?_) (fun c_65 => ?_)
        · exact absurd c_65 (by decide)
        · skip
          refine lv_aload_n hx hb dL_law_68 rfl (lv_at hl 3 rfl) ?_
          refine lv_aload_n hx hb dL_law_69 rfl (lv_at hl 2 rfl) ?_
          refine lv_iconst (v := 2) hx hb dL_law_70 (by decide) ?_
          refine lv_iload_n hx hb dL_law_71 rfl (lv_at hl 0 rfl) ?_
          refine xiadd (z := 2) hx hb dL_law_72 (by decide) ?_
          refine rcell X hJ hX hbl hbB hL (k := 2) rfl (by omega) hl.1 ⟨Nat.le_of_ble_eq_true rfl, Nat.le_of_ble_eq_true rfl⟩ ⟨Nat.le_of_ble_eq_true rfl, Nat.le_of_ble_eq_true rfl⟩ (rest := [.ref (B + 0)]) (Nat.le_of_ble_eq_true rfl) dL_law_73 (fun H locs hJ => ?_)
          refine lv_iconst (v := 2) hx hb dL_law_76 (by decide) ?_
          refine kL_45 X hJ (mL_low l E B _ (cellv xs L 2) 2 (by decide)) rfl hl.1 ⟨Nat.le_of_ble_eq_true rfl, Nat.le_of_ble_eq_true rfl⟩ ⟨Nat.le_of_ble_eq_true rfl, Nat.le_of_ble_eq_true rfl⟩ (rest := [.ref (B + 0)]) rfl (Nat.le_of_ble_eq_true rfl) dL_law_77 (fun H locs hJ => ?_)
          refine lv_aload_n hx hb dL_law_80 rfl (lv_at hl 2 rfl) ?_
          refine lv_iconst (v := 2) hx hb dL_law_81 (by decide) ?_
          refine lv_iload_n hx hb dL_law_82 rfl (lv_at hl 0 rfl) ?_
          refine xiadd (z := 2) hx hb dL_law_83 (by decide) ?_
          refine rcell X hJ hX hbl hbB hL (k := 2) rfl (by omega) hl.1 ⟨Nat.le_of_ble_eq_true rfl, Nat.le_of_ble_eq_true rfl⟩ ⟨Nat.le_of_ble_eq_true rfl, Nat.le_of_ble_eq_true rfl⟩ (rest := [.int (sL_low (cellv xs L 2) 2), .ref (B + 0)]) (Nat.le_of_ble_eq_true rfl) dL_law_84 (fun H locs hJ => ?_)
          refine lv_iconst (v := 3) hx hb dL_law_87 (by decide) ?_
          refine lv_ishr hx hb dL_law_88 ?_
          refine lv_bipush (v := 12) hx hb dL_law_89 (by decide) ?_
          refine kL_45 X hJ (mL_low l E B _ ((cellv xs L 2) >>> (3 &&& 31)) 12 (by decide)) rfl hl.1 ⟨Nat.le_of_ble_eq_true rfl, Nat.le_of_ble_eq_true rfl⟩ ⟨Nat.le_of_ble_eq_true rfl, Nat.le_of_ble_eq_true rfl⟩ (rest := [.int (sL_low (cellv xs L 2) 2), .ref (B + 0)]) rfl (Nat.le_of_ble_eq_true rfl) dL_law_91 (fun H locs hJ => ?_)
          refine kL_87 X hJ (mX6_cart l E B G2 (sL_low (cellv xs L 2) 2) (sL_low ((cellv xs L 2) >>> (3 &&& 31)) 12) (hgn)) rfl (by omega) at_X hl.1 ⟨Nat.le_of_ble_eq_true rfl, Nat.le_of_ble_eq_true rfl⟩ ⟨Nat.le_of_ble_eq_true rfl, Nat.le_of_ble_eq_true rfl⟩ (rest := []) rfl (Nat.le_of_ble_eq_true rfl) dL_law_94 (fun H locs hJ => ?_)
          have T3 : (sX6_cart G2 (sL_low (cellv xs L 2) 2) (sL_low ((cellv xs L 2) >>> (3 &&& 31)) 12)).1 = 0 ∧ LI 0 (sX6_cart G2 (sL_low (cellv xs L 2) 2) (sL_low ((cellv xs L 2) >>> (3 &&& 31)) 12)).2 ∧ nn ((sX6_cart G2 (sL_low (cellv xs L 2) 2) (sL_low ((cellv xs L 2) >>> (3 &&& 31)) 12)).2.1 0 6) = 1 := start_c (r := 0) (z := cellv xs L 2) (z' := (cellv xs L 2) >>> (3 &&& 31)) (m := 2) (m' := 12) u2 (by rw [w2, w1]; exact z6) (by omega) (by omega) (by omega) (by omega) (by omega)
          obtain ⟨t3, u3, v3⟩ := T3
          obtain ⟨G3, eG3⟩ : ∃ G, G = (sX6_cart G2 (sL_low (cellv xs L 2) 2) (sL_low ((cellv xs L 2) >>> (3 &&& 31)) 12)).2 := ⟨_, rfl⟩
          rw [← eG3] at hJ u3 v3
          rw [t3]
          have hgn := u3.2.2.1
          refine lv_iload_n hx hb dL_law_97 rfl (lv_at hl 0 rfl) ?_
          refine lv_icmp_ne (tgt := 105) hx hb dL_law_98 (by decide) (fun c_98 => ?_) (fun c_98 => ?_)
          · exact absurd c_98 (by decide)
          · skip
            refine lv_iconst (v := 1) hx hb dL_law_101 (by decide) ?_
            refine lv_goto (tgt := 106) hx hb dL_law_102 (by decide) ?_
            refine lv_istore_n (lv' := [(2, .int 1), (3, .int 0), (0, .ref b), (1, .ref (B + 0))]) hx hb dL_law_106 rfl hl (by decide) rfl (fun ls hl => ?_)
            refine lv_iinc (v := 1) (lv' := [(3, .int 1), (2, .int 1), (0, .ref b), (1, .ref (B + 0))]) hx hb dL_law_107 hl (k := 1) rfl (by decide) (by decide) rfl (fun ls hl => ?_)
            refine lv_goto (tgt := 59) hx hb dL_law_110 (by decide) ?_
            refine lv_iload_n hx hb dL_law_59 rfl (lv_at hl 0 rfl) ?_
            refine lv_iconst (v := 3) hx hb dL_law_60 (by decide) ?_
            refine lv_icmp_ge (tgt := 113) hx hb dL_law_61 (by decide) (fun c_61 => ?_) (fun c_61 => ?_)
            · exact absurd c_61 (by decide)
            · skip
              refine lv_iload_n hx hb dL_law_64 rfl (lv_at hl 1 rfl) ?_
              refine lv_if_eq (tgt := 105) hx hb dL_law_65 (by decide) (fun c_65 => ?_) (fun c_65 => ?_)
              · exact absurd c_65 (by decide)
              · skip
                refine lv_aload_n hx hb dL_law_68 rfl (lv_at hl 3 rfl) ?_
                refine lv_aload_n hx hb dL_law_69 rfl (lv_at hl 2 rfl) ?_
                refine lv_iconst (v := 2) hx hb dL_law_70 (by decide) ?_
                refine lv_iload_n hx hb dL_law_71 rfl (lv_at hl 0 rfl) ?_
                refine xiadd (z := 3) hx hb dL_law_72 (by decide) ?_
                refine rcell X hJ hX hbl hbB hL (k := 3) rfl (by omega) hl.1 ⟨Nat.le_of_ble_eq_true rfl, Nat.le_of_ble_eq_true rfl⟩ ⟨Nat.le_of_ble_eq_true rfl, Nat.le_of_ble_eq_true rfl⟩ (rest := [.ref (B + 0)]) (Nat.le_of_ble_eq_true rfl) dL_law_73 (fun H locs hJ => ?_)
                refine lv_iconst (v := 2) hx hb dL_law_76 (by decide) ?_
                refine kL_45 X hJ (mL_low l E B _ (cellv xs L 3) 2 (by decide)) rfl hl.1 ⟨Nat.le_of_ble_eq_true rfl, Nat.le_of_ble_eq_true rfl⟩ ⟨Nat.le_of_ble_eq_true rfl, Nat.le_of_ble_eq_true rfl⟩ (rest := [.ref (B + 0)]) rfl (Nat.le_of_ble_eq_true rfl) dL_law_77 (fun H locs hJ => ?_)
                refine lv_aload_n hx hb dL_law_80 rfl (lv_at hl 2 rfl) ?_
                refine lv_iconst (v := 2) hx hb dL_law_81 (by decide) ?_
                refine lv_iload_n hx hb dL_law_82 rfl (lv_at hl 0 rfl) ?_
                refine xiadd (z := 3) hx hb dL_law_83 (by decide) ?_
                refine rcell X hJ hX hbl hbB hL (k := 3) rfl (by omega) hl.1 ⟨Nat.le_of_ble_eq_true rfl, Nat.le_of_ble_eq_true rfl⟩ ⟨Nat.le_of_ble_eq_true rfl, Nat.le_of_ble_eq_true rfl⟩ (rest := [.int (sL_low (cellv xs L 3) 2), .ref (B + 0)]) (Nat.le_of_ble_eq_true rfl) dL_law_84 (fun H locs hJ => ?_)
                refine lv_iconst (v := 3) hx hb dL_law_87 (by decide) ?_
                refine lv_ishr hx hb dL_law_88 ?_
                refine lv_bipush (v := 12) hx hb dL_law_89 (by decide) ?_
                refine kL_45 X hJ (mL_low l E B _ ((cellv xs L 3) >>> (3 &&& 31)) 12 (by decide)) rfl hl.1 ⟨Nat.le_of_ble_eq_true rfl, Nat.le_of_ble_eq_true rfl⟩ ⟨Nat.le_of_ble_eq_true rfl, Nat.le_of_ble_eq_true rfl⟩ (rest := [.int (sL_low (cellv xs L 3) 2), .ref (B + 0)]) rfl (Nat.le_of_ble_eq_true rfl) dL_law_91 (fun H locs hJ => ?_)
                refine kL_87 X hJ (mX6_cart l E B G3 (sL_low (cellv xs L 3) 2) (sL_low ((cellv xs L 3) >>> (3 &&& 31)) 12) (hgn)) rfl (by omega) at_X hl.1 ⟨Nat.le_of_ble_eq_true rfl, Nat.le_of_ble_eq_true rfl⟩ ⟨Nat.le_of_ble_eq_true rfl, Nat.le_of_ble_eq_true rfl⟩ (rest := []) rfl (Nat.le_of_ble_eq_true rfl) dL_law_94 (fun H locs hJ => ?_)
                have T4 : (sX6_cart G3 (sL_low (cellv xs L 3) 2) (sL_low ((cellv xs L 3) >>> (3 &&& 31)) 12)).1 = 1 ∧ LI 0 (sX6_cart G3 (sL_low (cellv xs L 3) 2) (sL_low ((cellv xs L 3) >>> (3 &&& 31)) 12)).2 ∧ nn ((sX6_cart G3 (sL_low (cellv xs L 3) 2) (sL_low ((cellv xs L 3) >>> (3 &&& 31)) 12)).2.1 0 6) = 2 := start_c (r := 1) (z := cellv xs L 3) (z' := (cellv xs L 3) >>> (3 &&& 31)) (m := 2) (m' := 12) u3 v3 (by omega) (by omega) (by omega) (by omega) (by omega)
                obtain ⟨t4, u4, v4⟩ := T4
                obtain ⟨G4, eG4⟩ : ∃ G, G = (sX6_cart G3 (sL_low (cellv xs L 3) 2) (sL_low ((cellv xs L 3) >>> (3 &&& 31)) 12)).2 := ⟨_, rfl⟩
                rw [← eG4] at hJ u4 v4
                rw [t4]
                have hgn := u4.2.2.1
                refine lv_iload_n hx hb dL_law_97 rfl (lv_at hl 0 rfl) ?_
                refine lv_icmp_ne (tgt := 105) hx hb dL_law_98 (by decide) (fun c_98 => ?_) (fun c_98 => ?_)
                · exact absurd c_98 (by decide)
                · skip
                  refine lv_iconst (v := 1) hx hb dL_law_101 (by decide) ?_
                  refine lv_goto (tgt := 106) hx hb dL_law_102 (by decide) ?_
                  refine lv_istore_n (lv' := [(2, .int 1), (3, .int 1), (0, .ref b), (1, .ref (B + 0))]) hx hb dL_law_106 rfl hl (by decide) rfl (fun ls hl => ?_)
                  refine lv_iinc (v := 2) (lv' := [(3, .int 2), (2, .int 1), (0, .ref b), (1, .ref (B + 0))]) hx hb dL_law_107 hl (k := 1) rfl (by decide) (by decide) rfl (fun ls hl => ?_)
                  refine lv_goto (tgt := 59) hx hb dL_law_110 (by decide) ?_
                  refine lv_iload_n hx hb dL_law_59 rfl (lv_at hl 0 rfl) ?_
                  refine lv_iconst (v := 3) hx hb dL_law_60 (by decide) ?_
                  refine lv_icmp_ge (tgt := 113) hx hb dL_law_61 (by decide) (fun c_61 => ?_) (fun c_61 => ?_)
                  · exact absurd c_61 (by decide)
                  · skip
                    refine lv_iload_n hx hb dL_law_64 rfl (lv_at hl 1 rfl) ?_
                    refine lv_if_eq (tgt := 105) hx hb dL_law_65 (by decide) (fun c_65 => ?_) (fun c_65 => ?_)
                    · exact absurd c_65 (by decide)
                    · skip
                      refine lv_aload_n hx hb dL_law_68 rfl (lv_at hl 3 rfl) ?_
                      refine lv_aload_n hx hb dL_law_69 rfl (lv_at hl 2 rfl) ?_
                      refine lv_iconst (v := 2) hx hb dL_law_70 (by decide) ?_
                      refine lv_iload_n hx hb dL_law_71 rfl (lv_at hl 0 rfl) ?_
                      refine xiadd (z := 4) hx hb dL_law_72 (by decide) ?_
                      refine rcell X hJ hX hbl hbB hL (k := 4) rfl (by omega) hl.1 ⟨Nat.le_of_ble_eq_true rfl, Nat.le_of_ble_eq_true rfl⟩ ⟨Nat.le_of_ble_eq_true rfl, Nat.le_of_ble_eq_true rfl⟩ (rest := [.ref (B + 0)]) (Nat.le_of_ble_eq_true rfl) dL_law_73 (fun H locs hJ => ?_)
                      refine lv_iconst (v := 2) hx hb dL_law_76 (by decide) ?_
                      refine kL_45 X hJ (mL_low l E B _ (cellv xs L 4) 2 (by decide)) rfl hl.1 ⟨Nat.le_of_ble_eq_true rfl, Nat.le_of_ble_eq_true rfl⟩ ⟨Nat.le_of_ble_eq_true rfl, Nat.le_of_ble_eq_true rfl⟩ (rest := [.ref (B + 0)]) rfl (Nat.le_of_ble_eq_true rfl) dL_law_77 (fun H locs hJ => ?_)
                      refine lv_aload_n hx hb dL_law_80 rfl (lv_at hl 2 rfl) ?_
                      refine lv_iconst (v := 2) hx hb dL_law_81 (by decide) ?_
                      refine lv_iload_n hx hb dL_law_82 rfl (lv_at hl 0 rfl) ?_
                      refine xiadd (z := 4) hx hb dL_law_83 (by decide) ?_
                      refine rcell X hJ hX hbl hbB hL (k := 4) rfl (by omega) hl.1 ⟨Nat.le_of_ble_eq_true rfl, Nat.le_of_ble_eq_true rfl⟩ ⟨Nat.le_of_ble_eq_true rfl, Nat.le_of_ble_eq_true rfl⟩ (rest := [.int (sL_low (cellv xs L 4) 2), .ref (B + 0)]) (Nat.le_of_ble_eq_true rfl) dL_law_84 (fun H locs hJ => ?_)
                      refine lv_iconst (v := 3) hx hb dL_law_87 (by decide) ?_
                      refine lv_ishr hx hb dL_law_88 ?_
                      refine lv_bipush (v := 12) hx hb dL_law_89 (by decide) ?_
                      refine kL_45 X hJ (mL_low l E B _ ((cellv xs L 4) >>> (3 &&& 31)) 12 (by decide)) rfl hl.1 ⟨Nat.le_of_ble_eq_true rfl, Nat.le_of_ble_eq_true rfl⟩ ⟨Nat.le_of_ble_eq_true rfl, Nat.le_of_ble_eq_true rfl⟩ (rest := [.int (sL_low (cellv xs L 4) 2), .ref (B + 0)]) rfl (Nat.le_of_ble_eq_true rfl) dL_law_91 (fun H locs hJ => ?_)
                      refine kL_87 X hJ (mX6_cart l E B G4 (sL_low (cellv xs L 4) 2) (sL_low ((cellv xs L 4) >>> (3 &&& 31)) 12) (hgn)) rfl (by omega) at_X hl.1 ⟨Nat.le_of_ble_eq_true rfl, Nat.le_of_ble_eq_true rfl⟩ ⟨Nat.le_of_ble_eq_true rfl, Nat.le_of_ble_eq_true rfl⟩ (rest := []) rfl (Nat.le_of_ble_eq_true rfl) dL_law_94 (fun H locs hJ => ?_)
                      have T5 : (sX6_cart G4 (sL_low (cellv xs L 4) 2) (sL_low ((cellv xs L 4) >>> (3 &&& 31)) 12)).1 = 2 ∧ LI 0 (sX6_cart G4 (sL_low (cellv xs L 4) 2) (sL_low ((cellv xs L 4) >>> (3 &&& 31)) 12)).2 ∧ nn ((sX6_cart G4 (sL_low (cellv xs L 4) 2) (sL_low ((cellv xs L 4) >>> (3 &&& 31)) 12)).2.1 0 6) = 3 := start_c (r := 2) (z := cellv xs L 4) (z' := (cellv xs L 4) >>> (3 &&& 31)) (m := 2) (m' := 12) u4 v4 (by omega) (by omega) (by omega) (by omega) (by omega)
                      obtain ⟨t5, u5, v5⟩ := T5
                      obtain ⟨G5, eG5⟩ : ∃ G, G = (sX6_cart G4 (sL_low (cellv xs L 4) 2) (sL_low ((cellv xs L 4) >>> (3 &&& 31)) 12)).2 := ⟨_, rfl⟩
                      rw [← eG5] at hJ u5 v5
                      rw [t5]
                      have hgn := u5.2.2.1
                      refine lv_iload_n hx hb dL_law_97 rfl (lv_at hl 0 rfl) ?_
                      refine lv_icmp_ne (tgt := 105) hx hb dL_law_98 (by decide) (fun c_98 => ?_) (fun c_98 => ?_)
                      · exact absurd c_98 (by decide)
                      · skip
                        refine lv_iconst (v := 1) hx hb dL_law_101 (by decide) ?_
                        refine lv_goto (tgt := 106) hx hb dL_law_102 (by decide) ?_
                        refine lv_istore_n (lv' := [(2, .int 1), (3, .int 2), (0, .ref b), (1, .ref (B + 0))]) hx hb dL_law_106 rfl hl (by decide) rfl (fun ls hl => ?_)
                        refine lv_iinc (v := 3) (lv' := [(3, .int 3), (2, .int 1), (0, .ref b), (1, .ref (B + 0))]) hx hb dL_law_107 hl (k := 1) rfl (by decide) (by decide) rfl (fun ls hl => ?_)
                        refine lv_goto (tgt := 59) hx hb dL_law_110 (by decide) ?_
                        refine lv_iload_n hx hb dL_law_59 rfl (lv_at hl 0 rfl) ?_
                        refine lv_iconst (v := 3) hx hb dL_law_60 (by decide) ?_
                        refine lv_icmp_ge (tgt := 113) hx hb dL_law_61 (by decide) (fun c_61 => ?_) (fun c_61 => ?_)
                        · skip
                          refine lv_iconst (v := 0) hx hb dL_law_113 (by decide) ?_
                          refine lv_istore_n (lv' := [(3, .int 0), (2, .int 1), (0, .ref b), (1, .ref (B + 0))]) hx hb dL_law_114 rfl hl (by decide) rfl (fun ls hl => ?_)
                          exact law_115 X hX hbl hbB hL fin 37 0 (by omega) (by omega) _ _ _ _ u5 hJ (lv_sub hl [2, 3, 1, 0] rfl)
                        · exact absurd c_61 (by decide)
end LW
