/-! the cases of the law: write ofBridge ofCart knows waits sign count -/
section LC2
variable {p : Program} {l : Launch} {e : Env} {s : State} {m : MethodId} {below : List Frame} {meth : Method} {c : Code} {H : Heap} {locs : List Loc} {Q : State → Prop} {E : EE} {B : Nat} {ls : Array Slot}
set_option maxHeartbeats 4000000 in
set_option maxRecDepth 100000 in
theorem lc_write {b L i : Nat} {xs : Nat → Int32} {g : GS} (X : Cx p s m #[Value.ref b] c code 4 RL E B) (hX : va_X b L xs s s.heap) (hbl : b < s.heap.size) (hbB : b < B) (hL : L ≤ 2560) (hi : i + 5 ≤ L) (hl : lv_has ls 4 [(0, .ref b), (1, .ref (B + 0)), (2, .ref (B + 459)), (3, .int (nI i))]) (hR : RG g) (hJ : JG E B s g H locs)
    (next : ∀ (g1 : GS) (H : Heap) (locs : List Loc), RG g1 → JG E B s g1 H locs → W p l e room_1 s m #[Value.ref b] below meth c H locs 464 8551 Q (F0 m 1004 ls [])) : W p l e room_1 s m #[Value.ref b] below meth c H locs 464 8551 Q (F0 m 391 ls []) := by
  have hx := X.1
  have hb := X.2.1
  refine lv_aload_n hx hb dL_law_391 rfl (lv_at hl 1 rfl) ?_
  refine relem X hJ hX hbl hbB hL hl (k := 1) (by omega) (by decide) dL_law_392 dL_law_393 dL_law_394 dL_law_395 dL_law_396 ?_
  have hJ : JG E B s (upC g g.2.1) H locs := hJ
  refine kL_44 X hJ (mX6_write l E B g (xs (i + 1)) g.2.1 (g.1 0) rfl hR.1.2.1 (hR.1.1 0 (by omega))) rfl (by omega) pcT_0 hl.1 ⟨Nat.le_of_ble_eq_true rfl, Nat.le_of_ble_eq_true rfl⟩ ⟨Nat.le_of_ble_eq_true rfl, Nat.le_of_ble_eq_true rfl⟩ (rest := []) rfl (Nat.le_of_ble_eq_true rfl) dL_law_397 (fun H locs hJ => ?_)
  refine lv_aload_n hx hb dL_law_400 rfl (lv_at hl 2 rfl) ?_
  refine relem X hJ hX hbl hbB hL hl (k := 1) (by omega) (by decide) dL_law_401 dL_law_402 dL_law_403 dL_law_404 dL_law_405 ?_
  have hJ : JG E B s (upR (upC g (sX6_write g.2.1 (g.1 0) (xs (i + 1))).2) g.2.2.2) H locs := hJ
  refine kL_47 X hJ (mX7_write l E B (upC g (sX6_write g.2.1 (g.1 0) (xs (i + 1))).2) (xs (i + 1)) g.2.2.2 (g.2.2.1 0) rfl ⟨hR.2.1.2.1, Nat.zero_le _⟩ (hR.2.1.1 0 (by omega)).1) rfl (by omega) pcT_459 hl.1 ⟨Nat.le_of_ble_eq_true rfl, Nat.le_of_ble_eq_true rfl⟩ ⟨Nat.le_of_ble_eq_true rfl, Nat.le_of_ble_eq_true rfl⟩ (rest := [.int (sX6_write g.2.1 (g.1 0) (xs (i + 1))).1]) rfl (Nat.le_of_ble_eq_true rfl) dL_law_406 (fun H locs hJ => ?_)
  have ok := write_ok (x := (xs (i + 1))) hR
  refine lv_icmp_eq (tgt := 1004) hx hb dL_law_409 (by decide) (fun q => ?_) (fun q => ?_)
  · exact next _ _ _ ok.2 hJ
  · exact absurd ok.1 q
set_option maxHeartbeats 4000000 in
set_option maxRecDepth 100000 in
theorem lc_ofBridge {b L i : Nat} {xs : Nat → Int32} {g : GS} (X : Cx p s m #[Value.ref b] c code 4 RL E B) (hX : va_X b L xs s s.heap) (hbl : b < s.heap.size) (hbB : b < B) (hL : L ≤ 2560) (hi : i + 5 ≤ L) (hl : lv_has ls 4 [(0, .ref b), (1, .ref (B + 0)), (2, .ref (B + 459)), (3, .int (nI i))]) (hR : RG g) (hJ : JG E B s g H locs)
    (next : ∀ (g1 : GS) (H : Heap) (locs : List Loc), RG g1 → JG E B s g1 H locs → W p l e room_1 s m #[Value.ref b] below meth c H locs 464 8551 Q (F0 m 1004 ls [])) : W p l e room_1 s m #[Value.ref b] below meth c H locs 464 8551 Q (F0 m 414 ls []) := by
  have hx := X.1
  have hb := X.2.1
  refine lv_aload_n hx hb dL_law_414 rfl (lv_at hl 1 rfl) ?_
  refine relem X hJ hX hbl hbB hL hl (k := 1) (by omega) (by decide) dL_law_415 dL_law_416 dL_law_417 dL_law_418 dL_law_419 ?_
  refine relem X hJ hX hbl hbB hL hl (k := 2) (by omega) (by decide) dL_law_420 dL_law_421 dL_law_422 dL_law_423 dL_law_424 ?_
  refine kL_48 X hJ (mX6_ofBridge l E B g (xs (i + 1)) (xs (i + 2)) hR.1) rfl (by omega) pcT_0 hl.1 ⟨Nat.le_of_ble_eq_true rfl, Nat.le_of_ble_eq_true rfl⟩ ⟨Nat.le_of_ble_eq_true rfl, Nat.le_of_ble_eq_true rfl⟩ (rest := []) rfl (Nat.le_of_ble_eq_true rfl) dL_law_425 (fun H locs hJ => ?_)
  refine lv_aload_n hx hb dL_law_428 rfl (lv_at hl 2 rfl) ?_
  refine relem X hJ hX hbl hbB hL hl (k := 1) (by omega) (by decide) dL_law_429 dL_law_430 dL_law_431 dL_law_432 dL_law_433 ?_
  refine relem X hJ hX hbl hbB hL hl (k := 2) (by omega) (by decide) dL_law_434 dL_law_435 dL_law_436 dL_law_437 dL_law_438 ?_
  refine kL_51 X hJ (mX7_ofBridge l E B g (xs (i + 1)) (xs (i + 2)) (g.2.2.1 0) rfl (hR.2.1.1 0 (by omega)).1) rfl (by omega) pcT_459 hl.1 ⟨Nat.le_of_ble_eq_true rfl, Nat.le_of_ble_eq_true rfl⟩ ⟨Nat.le_of_ble_eq_true rfl, Nat.le_of_ble_eq_true rfl⟩ (rest := [.int (sX6_ofBridge g (xs (i + 1)) (xs (i + 2)))]) rfl (Nat.le_of_ble_eq_true rfl) dL_law_439 (fun H locs hJ => ?_)
  refine lv_icmp_eq (tgt := 1004) hx hb dL_law_442 (by decide) (fun q => ?_) (fun q => ?_)
  · exact next _ _ _ hR hJ
  · exact absurd (ofBridge_rel hR) q
set_option maxHeartbeats 4000000 in
set_option maxRecDepth 100000 in
theorem lc_ofCart {b L i : Nat} {xs : Nat → Int32} {g : GS} (X : Cx p s m #[Value.ref b] c code 4 RL E B) (hX : va_X b L xs s s.heap) (hbl : b < s.heap.size) (hbB : b < B) (hL : L ≤ 2560) (hi : i + 5 ≤ L) (hl : lv_has ls 4 [(0, .ref b), (1, .ref (B + 0)), (2, .ref (B + 459)), (3, .int (nI i))]) (hR : RG g) (hJ : JG E B s g H locs)
    (next : ∀ (g1 : GS) (H : Heap) (locs : List Loc), RG g1 → JG E B s g1 H locs → W p l e room_1 s m #[Value.ref b] below meth c H locs 464 8551 Q (F0 m 1004 ls [])) : W p l e room_1 s m #[Value.ref b] below meth c H locs 464 8551 Q (F0 m 447 ls []) := by
  have hx := X.1
  have hb := X.2.1
  refine lv_aload_n hx hb dL_law_447 rfl (lv_at hl 1 rfl) ?_
  refine relem X hJ hX hbl hbB hL hl (k := 1) (by omega) (by decide) dL_law_448 dL_law_449 dL_law_450 dL_law_451 dL_law_452 ?_
  refine relem X hJ hX hbl hbB hL hl (k := 2) (by omega) (by decide) dL_law_453 dL_law_454 dL_law_455 dL_law_456 dL_law_457 ?_
  refine kL_52 X hJ (mX6_ofCart l E B g (xs (i + 1)) (xs (i + 2)) hR.1) rfl (by omega) pcT_0 hl.1 ⟨Nat.le_of_ble_eq_true rfl, Nat.le_of_ble_eq_true rfl⟩ ⟨Nat.le_of_ble_eq_true rfl, Nat.le_of_ble_eq_true rfl⟩ (rest := []) rfl (Nat.le_of_ble_eq_true rfl) dL_law_458 (fun H locs hJ => ?_)
  refine lv_aload_n hx hb dL_law_461 rfl (lv_at hl 2 rfl) ?_
  refine relem X hJ hX hbl hbB hL hl (k := 1) (by omega) (by decide) dL_law_462 dL_law_463 dL_law_464 dL_law_465 dL_law_466 ?_
  refine relem X hJ hX hbl hbB hL hl (k := 2) (by omega) (by decide) dL_law_467 dL_law_468 dL_law_469 dL_law_470 dL_law_471 ?_
  refine kL_55 X hJ (mX7_ofCart l E B g (xs (i + 1)) (xs (i + 2)) (g.2.2.1 0) rfl (hR.2.1.1 0 (by omega)).1) rfl (by omega) pcT_459 hl.1 ⟨Nat.le_of_ble_eq_true rfl, Nat.le_of_ble_eq_true rfl⟩ ⟨Nat.le_of_ble_eq_true rfl, Nat.le_of_ble_eq_true rfl⟩ (rest := [.int (sX6_ofCart g (xs (i + 1)) (xs (i + 2)))]) rfl (Nat.le_of_ble_eq_true rfl) dL_law_472 (fun H locs hJ => ?_)
  refine lv_icmp_eq (tgt := 1004) hx hb dL_law_475 (by decide) (fun q => ?_) (fun q => ?_)
  · exact next _ _ _ hR hJ
  · exact absurd (ofCart_rel hR) q
set_option maxHeartbeats 4000000 in
set_option maxRecDepth 100000 in
theorem lc_knows {b L i : Nat} {xs : Nat → Int32} {g : GS} (X : Cx p s m #[Value.ref b] c code 4 RL E B) (hX : va_X b L xs s s.heap) (hbl : b < s.heap.size) (hbB : b < B) (hL : L ≤ 2560) (hi : i + 5 ≤ L) (hl : lv_has ls 4 [(0, .ref b), (1, .ref (B + 0)), (2, .ref (B + 459)), (3, .int (nI i))]) (hR : RG g) (hJ : JG E B s g H locs)
    (next : ∀ (g1 : GS) (H : Heap) (locs : List Loc), RG g1 → JG E B s g1 H locs → W p l e room_1 s m #[Value.ref b] below meth c H locs 464 8551 Q (F0 m 1004 ls [])) : W p l e room_1 s m #[Value.ref b] below meth c H locs 464 8551 Q (F0 m 480 ls []) := by
  have hx := X.1
  have hb := X.2.1
  refine lv_aload_n hx hb dL_law_480 rfl (lv_at hl 1 rfl) ?_
  refine relem X hJ hX hbl hbB hL hl (k := 1) (by omega) (by decide) dL_law_481 dL_law_482 dL_law_483 dL_law_484 dL_law_485 ?_
  refine relem X hJ hX hbl hbB hL hl (k := 2) (by omega) (by decide) dL_law_486 dL_law_487 dL_law_488 dL_law_489 dL_law_490 ?_
  refine relem X hJ hX hbl hbB hL hl (k := 3) (by omega) (by decide) dL_law_491 dL_law_492 dL_law_493 dL_law_494 dL_law_495 ?_
  refine kL_56 X hJ (mX6_knows l E B g (xs (i + 1)) (xs (i + 2)) (xs (i + 3)) hR.1) rfl (by omega) pcT_0 hl.1 ⟨Nat.le_of_ble_eq_true rfl, Nat.le_of_ble_eq_true rfl⟩ ⟨Nat.le_of_ble_eq_true rfl, Nat.le_of_ble_eq_true rfl⟩ (rest := []) rfl (Nat.le_of_ble_eq_true rfl) dL_law_496 (fun H locs hJ => ?_)
  refine lv_aload_n hx hb dL_law_499 rfl (lv_at hl 2 rfl) ?_
  refine relem X hJ hX hbl hbB hL hl (k := 1) (by omega) (by decide) dL_law_500 dL_law_501 dL_law_502 dL_law_503 dL_law_504 ?_
  refine relem X hJ hX hbl hbB hL hl (k := 2) (by omega) (by decide) dL_law_505 dL_law_506 dL_law_507 dL_law_508 dL_law_509 ?_
  refine relem X hJ hX hbl hbB hL hl (k := 3) (by omega) (by decide) dL_law_510 dL_law_511 dL_law_512 dL_law_513 dL_law_514 ?_
  refine kL_59 X hJ (mX7_knows l E B g (xs (i + 1)) (xs (i + 2)) (xs (i + 3)) (g.2.2.1 0) rfl (hR.2.1.1 0 (by omega)).1) rfl (by omega) pcT_459 hl.1 ⟨Nat.le_of_ble_eq_true rfl, Nat.le_of_ble_eq_true rfl⟩ ⟨Nat.le_of_ble_eq_true rfl, Nat.le_of_ble_eq_true rfl⟩ (rest := [.int (sX6_knows g (xs (i + 1)) (xs (i + 2)) (xs (i + 3)))]) rfl (Nat.le_of_ble_eq_true rfl) dL_law_515 (fun H locs hJ => ?_)
  refine lv_icmp_eq (tgt := 1004) hx hb dL_law_518 (by decide) (fun q => ?_) (fun q => ?_)
  · exact next _ _ _ hR hJ
  · exact absurd (knows_rel hR) q
set_option maxHeartbeats 4000000 in
set_option maxRecDepth 100000 in
theorem lc_waits {b L i : Nat} {xs : Nat → Int32} {g : GS} (X : Cx p s m #[Value.ref b] c code 4 RL E B) (hX : va_X b L xs s s.heap) (hbl : b < s.heap.size) (hbB : b < B) (hL : L ≤ 2560) (hi : i + 5 ≤ L) (hl : lv_has ls 4 [(0, .ref b), (1, .ref (B + 0)), (2, .ref (B + 459)), (3, .int (nI i))]) (hR : RG g) (hJ : JG E B s g H locs)
    (next : ∀ (g1 : GS) (H : Heap) (locs : List Loc), RG g1 → JG E B s g1 H locs → W p l e room_1 s m #[Value.ref b] below meth c H locs 464 8551 Q (F0 m 1004 ls [])) : W p l e room_1 s m #[Value.ref b] below meth c H locs 464 8551 Q (F0 m 523 ls []) := by
  have hx := X.1
  have hb := X.2.1
  refine lv_aload_n hx hb dL_law_523 rfl (lv_at hl 1 rfl) ?_
  refine relem X hJ hX hbl hbB hL hl (k := 1) (by omega) (by decide) dL_law_524 dL_law_525 dL_law_526 dL_law_527 dL_law_528 ?_
  refine relem X hJ hX hbl hbB hL hl (k := 2) (by omega) (by decide) dL_law_529 dL_law_530 dL_law_531 dL_law_532 dL_law_533 ?_
  refine kL_60 X hJ (mX6_waits l E B g (xs (i + 1)) (xs (i + 2)) hR.1) rfl (by omega) pcT_0 hl.1 ⟨Nat.le_of_ble_eq_true rfl, Nat.le_of_ble_eq_true rfl⟩ ⟨Nat.le_of_ble_eq_true rfl, Nat.le_of_ble_eq_true rfl⟩ (rest := []) rfl (Nat.le_of_ble_eq_true rfl) dL_law_534 (fun H locs hJ => ?_)
  refine lv_aload_n hx hb dL_law_537 rfl (lv_at hl 2 rfl) ?_
  refine relem X hJ hX hbl hbB hL hl (k := 1) (by omega) (by decide) dL_law_538 dL_law_539 dL_law_540 dL_law_541 dL_law_542 ?_
  refine relem X hJ hX hbl hbB hL hl (k := 2) (by omega) (by decide) dL_law_543 dL_law_544 dL_law_545 dL_law_546 dL_law_547 ?_
  refine kL_63 X hJ (mX7_waits l E B g (xs (i + 1)) (xs (i + 2)) (g.2.2.1 0) rfl (hR.2.1.1 0 (by omega)).1) rfl (by omega) pcT_459 hl.1 ⟨Nat.le_of_ble_eq_true rfl, Nat.le_of_ble_eq_true rfl⟩ ⟨Nat.le_of_ble_eq_true rfl, Nat.le_of_ble_eq_true rfl⟩ (rest := [.int (sX6_waits g (xs (i + 1)) (xs (i + 2)))]) rfl (Nat.le_of_ble_eq_true rfl) dL_law_548 (fun H locs hJ => ?_)
  refine lv_icmp_eq (tgt := 1004) hx hb dL_law_551 (by decide) (fun q => ?_) (fun q => ?_)
  · exact next _ _ _ hR hJ
  · exact absurd (waits_rel hR) q
set_option maxHeartbeats 4000000 in
set_option maxRecDepth 100000 in
theorem lc_sign {b L i : Nat} {xs : Nat → Int32} {g : GS} (X : Cx p s m #[Value.ref b] c code 4 RL E B) (hX : va_X b L xs s s.heap) (hbl : b < s.heap.size) (hbB : b < B) (hL : L ≤ 2560) (hi : i + 5 ≤ L) (hl : lv_has ls 4 [(0, .ref b), (1, .ref (B + 0)), (2, .ref (B + 459)), (3, .int (nI i))]) (hR : RG g) (hJ : JG E B s g H locs)
    (next : ∀ (g1 : GS) (H : Heap) (locs : List Loc), RG g1 → JG E B s g1 H locs → W p l e room_1 s m #[Value.ref b] below meth c H locs 464 8551 Q (F0 m 1004 ls [])) : W p l e room_1 s m #[Value.ref b] below meth c H locs 464 8551 Q (F0 m 556 ls []) := by
  have hx := X.1
  have hb := X.2.1
  refine lv_aload_n hx hb dL_law_556 rfl (lv_at hl 1 rfl) ?_
  refine relem X hJ hX hbl hbB hL hl (k := 1) (by omega) (by decide) dL_law_557 dL_law_558 dL_law_559 dL_law_560 dL_law_561 ?_
  refine kL_64 X hJ (mX6_sign l E B g (xs (i + 1)) g.2.1 rfl hR.1.2.1) rfl (by omega) pcT_0 hl.1 ⟨Nat.le_of_ble_eq_true rfl, Nat.le_of_ble_eq_true rfl⟩ ⟨Nat.le_of_ble_eq_true rfl, Nat.le_of_ble_eq_true rfl⟩ (rest := []) rfl (Nat.le_of_ble_eq_true rfl) dL_law_562 (fun H locs hJ => ?_)
  refine lv_aload_n hx hb dL_law_565 rfl (lv_at hl 2 rfl) ?_
  refine relem X hJ hX hbl hbB hL hl (k := 1) (by omega) (by decide) dL_law_566 dL_law_567 dL_law_568 dL_law_569 dL_law_570 ?_
  refine kL_67 X hJ (mX7_sign l E B g (xs (i + 1)) g.2.2.2 rfl ⟨hR.2.1.2.1, Nat.zero_le _⟩) rfl (by omega) pcT_459 hl.1 ⟨Nat.le_of_ble_eq_true rfl, Nat.le_of_ble_eq_true rfl⟩ ⟨Nat.le_of_ble_eq_true rfl, Nat.le_of_ble_eq_true rfl⟩ (rest := [.int (sX6_sign g.2.1 (xs (i + 1)))]) rfl (Nat.le_of_ble_eq_true rfl) dL_law_571 (fun H locs hJ => ?_)
  refine lv_icmp_eq (tgt := 1004) hx hb dL_law_574 (by decide) (fun q => ?_) (fun q => ?_)
  · exact next _ _ _ hR hJ
  · exact absurd (sign_ok hR) q
set_option maxHeartbeats 4000000 in
set_option maxRecDepth 100000 in
theorem lc_count {b L i : Nat} {xs : Nat → Int32} {g : GS} (X : Cx p s m #[Value.ref b] c code 4 RL E B) (hX : va_X b L xs s s.heap) (hbl : b < s.heap.size) (hbB : b < B) (hL : L ≤ 2560) (hi : i + 5 ≤ L) (hl : lv_has ls 4 [(0, .ref b), (1, .ref (B + 0)), (2, .ref (B + 459)), (3, .int (nI i))]) (hR : RG g) (hJ : JG E B s g H locs)
    (next : ∀ (g1 : GS) (H : Heap) (locs : List Loc), RG g1 → JG E B s g1 H locs → W p l e room_1 s m #[Value.ref b] below meth c H locs 464 8551 Q (F0 m 1004 ls [])) : W p l e room_1 s m #[Value.ref b] below meth c H locs 464 8551 Q (F0 m 579 ls []) := by
  have hx := X.1
  have hb := X.2.1
  refine lv_aload_n hx hb dL_law_579 rfl (lv_at hl 1 rfl) ?_
  refine relem X hJ hX hbl hbB hL hl (k := 1) (by omega) (by decide) dL_law_580 dL_law_581 dL_law_582 dL_law_583 dL_law_584 ?_
  refine kL_68 X hJ (mX6_count l E B g (xs (i + 1)) hR.1) rfl (by omega) pcT_0 hl.1 ⟨Nat.le_of_ble_eq_true rfl, Nat.le_of_ble_eq_true rfl⟩ ⟨Nat.le_of_ble_eq_true rfl, Nat.le_of_ble_eq_true rfl⟩ (rest := []) rfl (Nat.le_of_ble_eq_true rfl) dL_law_585 (fun H locs hJ => ?_)
  refine lv_aload_n hx hb dL_law_588 rfl (lv_at hl 2 rfl) ?_
  refine relem X hJ hX hbl hbB hL hl (k := 1) (by omega) (by decide) dL_law_589 dL_law_590 dL_law_591 dL_law_592 dL_law_593 ?_
  refine kL_71 X hJ (mX7_count l E B g (xs (i + 1)) hR.2.1.gm) rfl (by omega) pcT_459 hl.1 ⟨Nat.le_of_ble_eq_true rfl, Nat.le_of_ble_eq_true rfl⟩ ⟨Nat.le_of_ble_eq_true rfl, Nat.le_of_ble_eq_true rfl⟩ (rest := [.int (sX6_count g (xs (i + 1)))]) rfl (Nat.le_of_ble_eq_true rfl) dL_law_594 (fun H locs hJ => ?_)
  refine lv_icmp_eq (tgt := 1004) hx hb dL_law_597 (by decide) (fun q => ?_) (fun q => ?_)
  · exact next _ _ _ hR hJ
  · exact absurd (count_rel hR) q
end LC2
