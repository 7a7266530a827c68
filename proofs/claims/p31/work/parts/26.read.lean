def sX6_numberOfN (x : Int32) : Int32 := x
set_option maxHeartbeats 4000000 in
set_option maxRecDepth 100000 in
theorem mX6_numberOfN (l : Launch) (E : EE) (B : Nat) (g : GS) (x : Int32) : CG l yX6_numberOf cX6_numberOf 2 (some .int) 0 0 E B [.null, .int x] g (some (.int (sX6_numberOfN x))) g := by
  refine mkI (own := RX6) (ty := .int) rfl (by decide) rfl (rfl) (Nat.le_of_ble_eq_true rfl) (fun P_ e_ s_ m_ a_ below meth cd Q X fin ls hl hJ => ?_)
  have hx := X.1
  have hb := X.2.1
  have hl : lv_has ls 2 [(0, .null), (1, .int x)] := hl
  refine lv_aload_nN hx hb dX6_numberOf_0 rfl (lv_at hl 0 rfl) ?_
  refine lv_ifnonnullN hx hb dX6_numberOf_1 ?_
  refine lv_iload_n hx hb dX6_numberOf_4 rfl (lv_at hl 1 rfl) ?_
  refine lv_goto (tgt := 12) hx hb dX6_numberOf_5 (by decide) ?_
  have hs : sX6_numberOfN x = x := by unfold sX6_numberOfN; rfl
  exact fin hJ (by rw [hs]) dX6_numberOf_12

def sX6_numberOfC (w : Row) (ct : Nat) (x : Int32) : Int32 := nI ct
set_option maxHeartbeats 4000000 in
set_option maxRecDepth 100000 in
theorem mX6_numberOfC (l : Launch) (E : EE) (B : Nat) (g : GS) (k ct : Nat) (x : Int32) (w : Row) (hk : k < 11) (hct : ct < 8) (hw : g.1 k = w) : CG l yX6_numberOf cX6_numberOf 2 (some .int) 0 0 E B [.ref (B + (wo k + (17 + 3 * ct))), .int x] g (some (.int (sX6_numberOfC w ct x))) g := by
  refine mkI (own := RX6) (ty := .int) rfl (by decide) rfl (rfl) (Nat.le_of_ble_eq_true rfl) (fun P_ e_ s_ m_ a_ below meth cd Q X fin ls hl hJ => ?_)
  have hx := X.1
  have hb := X.2.1
  have hl : lv_has ls 2 [(0, .ref (B + (wo k + (17 + 3 * ct)))), (1, .int x)] := hl
  refine lv_aload_n hx hb dX6_numberOf_0 rfl (lv_at hl 0 rfl) ?_
  refine lv_ifnonnull (tgt := 8) hx hb dX6_numberOf_1 (by decide) ?_
  refine lv_aload_n hx hb dX6_numberOf_8 rfl (lv_at hl 0 rfl) ?_
  refine gX6_207 X hJ (k := k) (w := w) (by omega) (i := ct) (by omega)  hw dX6_numberOf_9 ?_
  have hs : sX6_numberOfC w ct x = nI ct := by unfold sX6_numberOfC; rfl
  exact fin hJ (by rw [hs]) dX6_numberOf_12

def sX6_ofBridge (g : GS) (x : Int32) (y : Int32) : Int32 := oe (sX5_bridgeOf (g.1 0) x) ((-1)) (fun q1 => if sX6_isBelow y 8 = 0 then ((-2)) else (sX0_part (g.1 0) q1 y))
set_option maxHeartbeats 4000000 in
set_option maxRecDepth 100000 in
theorem mX6_ofBridge (l : Launch) (E : EE) (B : Nat) (g : GS) (x : Int32) (y : Int32) (hgn : Gn g) : CG l yX6_ofBridge cX6_ofBridge 4 (some .int) 2 42 E B [.ref (B + 0), .int x, .int y] g (some (.int (sX6_ofBridge g x y))) g := by
  refine mkI (own := RX6) (ty := .int) rfl (by decide) rfl (rfl) (Nat.le_of_ble_eq_true rfl) (fun P_ e_ s_ m_ a_ below meth cd Q X fin ls hl hJ => ?_)
  have hx := X.1
  have hb := X.2.1
  have hl : lv_has ls 4 [(0, .ref (B + 0)), (1, .int x), (2, .int y)] := hl
  refine lv_aload_n hx hb dX6_ofBridge_0 rfl (lv_at hl 0 rfl) ?_
  refine gX6_10 X hJ  dX6_ofBridge_1 ?_
  refine lv_iload_n hx hb dX6_ofBridge_4 rfl (lv_at hl 1 rfl) ?_
  refine kX6_96 X hJ (mX5_bridgeOf l E B _ 0 x (g.1 0) (by omega) rfl ((hgn).1 0 (by omega))) rfl (lt_W0 (by omega)) (at_W (by omega) rfl) hl.1 ⟨Nat.le_of_ble_eq_true rfl, Nat.le_of_ble_eq_true rfl⟩ ⟨Nat.le_refl _, Nat.le_refl _⟩ (rest := []) rfl (Nat.le_of_ble_eq_true rfl) dX6_ofBridge_5 (fun H locs hJ => ?_)
  rcases o_5 : sX5_bridgeOf (g.1 0) x with _ | q1
  · skip
    refine lv_astore_nN (lv' := [(3, .null), (0, .ref (B + 0)), (1, .int x), (2, .int y)]) hx hb dX6_ofBridge_8 rfl hl (by decide) rfl (fun ls hl => ?_)
    refine lv_aload_nN hx hb dX6_ofBridge_9 rfl (lv_at hl 0 rfl) ?_
    refine lv_ifnonnullN hx hb dX6_ofBridge_10 ?_
    refine lv_iconst (v := (-1)) hx hb dX6_ofBridge_13 (by decide) ?_
    have hs : sX6_ofBridge g x y = (-1) := by unfold sX6_ofBridge; rw [oe_none o_5]
    exact fin hJ (by rw [hs]) dX6_ofBridge_14
  · skip
    obtain ⟨hq1, xq1, yq1⟩ := bridgeOf_some ((hgn).1 0 (by omega)) o_5
    refine lv_astore_n (lv' := [(3, .ref (B + (wo 0 + (5 + q1)))), (0, .ref (B + 0)), (1, .int x), (2, .int y)]) hx hb dX6_ofBridge_8 rfl hl (by decide) rfl (fun ls hl => ?_)
    refine lv_aload_n hx hb dX6_ofBridge_9 rfl (lv_at hl 0 rfl) ?_
    refine lv_ifnonnull (tgt := 15) hx hb dX6_ofBridge_10 (by decide) ?_
    refine lv_iload_n hx hb dX6_ofBridge_15 rfl (lv_at hl 3 rfl) ?_
    refine lv_bipush (v := 8) hx hb dX6_ofBridge_16 (by decide) ?_
    refine kX6_100 X hJ (mX6_isBelow l E B _ y 8) rfl hl.1 ⟨Nat.le_of_ble_eq_true rfl, Nat.le_of_ble_eq_true rfl⟩ ⟨Nat.le_refl _, Nat.le_refl _⟩ (rest := []) rfl (Nat.le_of_ble_eq_true rfl) dX6_ofBridge_18 (fun H locs hJ => ?_)
    refine lv_if_eq (tgt := 32) hx hb dX6_ofBridge_21 (by decide) (fun c_21 => ?_) (fun c_21 => ?_)
    · skip
      refine lv_bipush (v := (-2)) hx hb dX6_ofBridge_32 (by decide) ?_
      have hs : sX6_ofBridge g x y = (-2) := by unfold sX6_ofBridge; rw [oe_some o_5, if_pos c_21]
      exact fin hJ (by rw [hs]) dX6_ofBridge_34
    · skip
      refine lv_aload_n hx hb dX6_ofBridge_24 rfl (lv_at hl 0 rfl) ?_
      refine lv_iload_n hx hb dX6_ofBridge_25 rfl (lv_at hl 3 rfl) ?_
      refine kX6_104 X hJ (mX0_part l E B _ 0 q1 y (g.1 0) (by omega) (by omega) rfl) rfl (lt_W (by omega) (by omega)) (at_B (by omega) (by omega) rfl) hl.1 ⟨Nat.le_of_ble_eq_true rfl, Nat.le_of_ble_eq_true rfl⟩ ⟨Nat.le_refl _, Nat.le_refl _⟩ (rest := []) rfl (Nat.le_of_ble_eq_true rfl) dX6_ofBridge_26 (fun H locs hJ => ?_)
      refine lv_goto (tgt := 34) hx hb dX6_ofBridge_29 (by decide) ?_
      have hs : sX6_ofBridge g x y = sX0_part (g.1 0) q1 y := by unfold sX6_ofBridge; rw [oe_some o_5, if_neg c_21]
      exact fin hJ (by rw [hs]) dX6_ofBridge_34

def sX6_ofCart (g : GS) (x : Int32) (y : Int32) : Int32 := oe (sX5_cartOf (g.1 0) x) ((-1)) (fun q1 => if sX6_isBelow y 8 = 0 then ((-2)) else (sX1_part (g.1 0) q1 y))
set_option maxHeartbeats 4000000 in
set_option maxRecDepth 100000 in
theorem mX6_ofCart (l : Launch) (E : EE) (B : Nat) (g : GS) (x : Int32) (y : Int32) (hgn : Gn g) : CG l yX6_ofCart cX6_ofCart 4 (some .int) 2 42 E B [.ref (B + 0), .int x, .int y] g (some (.int (sX6_ofCart g x y))) g := by
  refine mkI (own := RX6) (ty := .int) rfl (by decide) rfl (rfl) (Nat.le_of_ble_eq_true rfl) (fun P_ e_ s_ m_ a_ below meth cd Q X fin ls hl hJ => ?_)
  have hx := X.1
  have hb := X.2.1
  have hl : lv_has ls 4 [(0, .ref (B + 0)), (1, .int x), (2, .int y)] := hl
  refine lv_aload_n hx hb dX6_ofCart_0 rfl (lv_at hl 0 rfl) ?_
  refine gX6_10 X hJ  dX6_ofCart_1 ?_
  refine lv_iload_n hx hb dX6_ofCart_4 rfl (lv_at hl 1 rfl) ?_
  refine kX6_81 X hJ (mX5_cartOf l E B _ 0 x (g.1 0) (by omega) rfl ((hgn).1 0 (by omega))) rfl (lt_W0 (by omega)) (at_W (by omega) rfl) hl.1 ⟨Nat.le_of_ble_eq_true rfl, Nat.le_of_ble_eq_true rfl⟩ ⟨Nat.le_refl _, Nat.le_refl _⟩ (rest := []) rfl (Nat.le_of_ble_eq_true rfl) dX6_ofCart_5 (fun H locs hJ => ?_)
  rcases o_5 : sX5_cartOf (g.1 0) x with _ | q1
  · skip
    refine lv_astore_nN (lv' := [(3, .null), (0, .ref (B + 0)), (1, .int x), (2, .int y)]) hx hb dX6_ofCart_8 rfl hl (by decide) rfl (fun ls hl => ?_)
    refine lv_aload_nN hx hb dX6_ofCart_9 rfl (lv_at hl 0 rfl) ?_
    refine lv_ifnonnullN hx hb dX6_ofCart_10 ?_
    refine lv_iconst (v := (-1)) hx hb dX6_ofCart_13 (by decide) ?_
    have hs : sX6_ofCart g x y = (-1) := by unfold sX6_ofCart; rw [oe_none o_5]
    exact fin hJ (by rw [hs]) dX6_ofCart_14
  · skip
    obtain ⟨hq1, xq1, yq1⟩ := cartOf_some ((hgn).1 0 (by omega)) o_5
    refine lv_astore_n (lv' := [(3, .ref (B + (wo 0 + (17 + 3 * q1)))), (0, .ref (B + 0)), (1, .int x), (2, .int y)]) hx hb dX6_ofCart_8 rfl hl (by decide) rfl (fun ls hl => ?_)
    refine lv_aload_n hx hb dX6_ofCart_9 rfl (lv_at hl 0 rfl) ?_
    refine lv_ifnonnull (tgt := 15) hx hb dX6_ofCart_10 (by decide) ?_
    refine lv_iload_n hx hb dX6_ofCart_15 rfl (lv_at hl 3 rfl) ?_
    refine lv_bipush (v := 8) hx hb dX6_ofCart_16 (by decide) ?_
    refine kX6_100 X hJ (mX6_isBelow l E B _ y 8) rfl hl.1 ⟨Nat.le_of_ble_eq_true rfl, Nat.le_of_ble_eq_true rfl⟩ ⟨Nat.le_refl _, Nat.le_refl _⟩ (rest := []) rfl (Nat.le_of_ble_eq_true rfl) dX6_ofCart_18 (fun H locs hJ => ?_)
    refine lv_if_eq (tgt := 32) hx hb dX6_ofCart_21 (by decide) (fun c_21 => ?_) (fun c_21 => ?_)
    · skip
      refine lv_bipush (v := (-2)) hx hb dX6_ofCart_32 (by decide) ?_
      have hs : sX6_ofCart g x y = (-2) := by unfold sX6_ofCart; rw [oe_some o_5, if_pos c_21]
      exact fin hJ (by rw [hs]) dX6_ofCart_34
    · skip
      refine lv_aload_n hx hb dX6_ofCart_24 rfl (lv_at hl 0 rfl) ?_
      refine lv_iload_n hx hb dX6_ofCart_25 rfl (lv_at hl 3 rfl) ?_
      refine kX6_109 X hJ (mX1_part l E B _ 0 q1 y (g.1 0) (by omega) (by omega) rfl) rfl (lt_W (by omega) (by omega)) (at_C (by omega) (by omega) rfl) hl.1 ⟨Nat.le_of_ble_eq_true rfl, Nat.le_of_ble_eq_true rfl⟩ ⟨Nat.le_refl _, Nat.le_refl _⟩ (rest := []) rfl (Nat.le_of_ble_eq_true rfl) dX6_ofCart_26 (fun H locs hJ => ?_)
      refine lv_goto (tgt := 34) hx hb dX6_ofCart_29 (by decide) ?_
      have hs : sX6_ofCart g x y = sX1_part (g.1 0) q1 y := by unfold sX6_ofCart; rw [oe_some o_5, if_neg c_21]
      exact fin hJ (by rw [hs]) dX6_ofCart_34

def sX6_knows (g : GS) (x : Int32) (y : Int32) (z : Int32) : Int32 := oe (sX5_cartOf (g.1 0) x) (oe (sX5_bridgeOf (g.1 0) y) ((-1)) (fun q2 => (-1))) (fun q1 => oe (sX5_bridgeOf (g.1 0) y) ((-1)) (fun q3 => if sX6_isBelow z 2 = 0 then ((-2)) else (if z = 0 then (sX1_lowest (g.1 0) q1 q3) else (sX1_highest (g.1 0) q1 q3))))
set_option maxHeartbeats 4000000 in
set_option maxRecDepth 100000 in
theorem mX6_knows (l : Launch) (E : EE) (B : Nat) (g : GS) (x : Int32) (y : Int32) (z : Int32) (hgn : Gn g) : CG l yX6_knows cX6_knows 6 (some .int) 2 42 E B [.ref (B + 0), .int x, .int y, .int z] g (some (.int (sX6_knows g x y z))) g := by
  refine mkI (own := RX6) (ty := .int) rfl (by decide) rfl (rfl) (Nat.le_of_ble_eq_true rfl) (fun P_ e_ s_ m_ a_ below meth cd Q X fin ls hl hJ => ?_)
  have hx := X.1
  have hb := X.2.1
  have hl : lv_has ls 6 [(0, .ref (B + 0)), (1, .int x), (2, .int y), (3, .int z)] := hl
  refine lv_aload_n hx hb dX6_knows_0 rfl (lv_at hl 0 rfl) ?_
  refine gX6_10 X hJ  dX6_knows_1 ?_
  refine lv_iload_n hx hb dX6_knows_4 rfl (lv_at hl 1 rfl) ?_
  refine kX6_81 X hJ (mX5_cartOf l E B _ 0 x (g.1 0) (by omega) rfl ((hgn).1 0 (by omega))) rfl (lt_W0 (by omega)) (at_W (by omega) rfl) hl.1 ⟨Nat.le_of_ble_eq_true rfl, Nat.le_of_ble_eq_true rfl⟩ ⟨Nat.le_refl _, Nat.le_refl _⟩ (rest := []) rfl (Nat.le_of_ble_eq_true rfl) dX6_knows_5 (fun H locs hJ => ?_)
  rcases o_5 : sX5_cartOf (g.1 0) x with _ | q1
  · skip
    refine lv_astoreN (lv' := [(4, .null), (0, .ref (B + 0)), (1, .int x), (2, .int y), (3, .int z)]) hx hb dX6_knows_8 hl (by decide) rfl (fun ls hl => ?_)
    refine lv_aload_n hx hb dX6_knows_10 rfl (lv_at hl 1 rfl) ?_
    refine gX6_10 X hJ  dX6_knows_11 ?_
    refine lv_iload_n hx hb dX6_knows_14 rfl (lv_at hl 3 rfl) ?_
    refine kX6_96 X hJ (mX5_bridgeOf l E B _ 0 y (g.1 0) (by omega) rfl ((hgn).1 0 (by omega))) rfl (lt_W0 (by omega)) (at_W (by omega) rfl) hl.1 ⟨Nat.le_of_ble_eq_true rfl, Nat.le_of_ble_eq_true rfl⟩ ⟨Nat.le_refl _, Nat.le_refl _⟩ (rest := []) rfl (Nat.le_of_ble_eq_true rfl) dX6_knows_15 (fun H locs hJ => ?_)
    rcases o_15 : sX5_bridgeOf (g.1 0) y with _ | q2
    · skip
      refine lv_astoreN (lv' := [(5, .null), (4, .null), (0, .ref (B + 0)), (1, .int x), (2, .int y), (3, .int z)]) hx hb dX6_knows_18 hl (by decide) rfl (fun ls hl => ?_)
      refine lv_aloadN hx hb dX6_knows_20 (lv_at hl 1 rfl) ?_
      refine lv_ifnullN (tgt := 30) hx hb dX6_knows_22 (by decide) ?_
      refine lv_iconst (v := (-1)) hx hb dX6_knows_30 (by decide) ?_
      have hs : sX6_knows g x y z = (-1) := by unfold sX6_knows; rw [oe_none o_5, oe_none o_15]
      exact fin hJ (by rw [hs]) dX6_knows_31
    · skip
      obtain ⟨hq2, xq2, yq2⟩ := bridgeOf_some ((hgn).1 0 (by omega)) o_15
      refine lv_astore (lv' := [(5, .ref (B + (wo 0 + (5 + q2)))), (4, .null), (0, .ref (B + 0)), (1, .int x), (2, .int y), (3, .int z)]) hx hb dX6_knows_18 hl (by decide) rfl (fun ls hl => ?_)
      refine lv_aloadN hx hb dX6_knows_20 (lv_at hl 1 rfl) ?_
      refine lv_ifnullN (tgt := 30) hx hb dX6_knows_22 (by decide) ?_
      refine lv_iconst (v := (-1)) hx hb dX6_knows_30 (by decide) ?_
      have hs : sX6_knows g x y z = (-1) := by unfold sX6_knows; rw [oe_none o_5, oe_some o_15]
      exact fin hJ (by rw [hs]) dX6_knows_31
  · skip
    obtain ⟨hq1, xq1, yq1⟩ := cartOf_some ((hgn).1 0 (by omega)) o_5
    refine lv_astore (lv' := [(4, .ref (B + (wo 0 + (17 + 3 * q1)))), (0, .ref (B + 0)), (1, .int x), (2, .int y), (3, .int z)]) hx hb dX6_knows_8 hl (by decide) rfl (fun ls hl => ?_)
    refine lv_aload_n hx hb dX6_knows_10 rfl (lv_at hl 1 rfl) ?_
    refine gX6_10 X hJ  dX6_knows_11 ?_
    refine lv_iload_n hx hb dX6_knows_14 rfl (lv_at hl 3 rfl) ?_
    refine kX6_96 X hJ (mX5_bridgeOf l E B _ 0 y (g.1 0) (by omega) rfl ((hgn).1 0 (by omega))) rfl (lt_W0 (by omega)) (at_W (by omega) rfl) hl.1 ⟨Nat.le_of_ble_eq_true rfl, Nat.le_of_ble_eq_true rfl⟩ ⟨Nat.le_refl _, Nat.le_refl _⟩ (rest := []) rfl (Nat.le_of_ble_eq_true rfl) dX6_knows_15 (fun H locs hJ => ?_)
    rcases o_15 : sX5_bridgeOf (g.1 0) y with _ | q3
    · skip
      refine lv_astoreN (lv' := [(5, .null), (4, .ref (B + (wo 0 + (17 + 3 * q1)))), (0, .ref (B + 0)), (1, .int x), (2, .int y), (3, .int z)]) hx hb dX6_knows_18 hl (by decide) rfl (fun ls hl => ?_)
      refine lv_aload hx hb dX6_knows_20 (lv_at hl 1 rfl) ?_
      refine lv_ifnull hx hb dX6_knows_22 ?_
      refine lv_aloadN hx hb dX6_knows_25 (lv_at hl 0 rfl) ?_
      refine lv_ifnonnullN hx hb dX6_knows_27 ?_
      refine lv_iconst (v := (-1)) hx hb dX6_knows_30 (by decide) ?_
      have hs : sX6_knows g x y z = (-1) := by unfold sX6_knows; rw [oe_some o_5, oe_none o_15]
      exact fin hJ (by rw [hs]) dX6_knows_31
    · skip
      obtain ⟨hq3, xq3, yq3⟩ := bridgeOf_some ((hgn).1 0 (by omega)) o_15
      refine lv_astore (lv' := [(5, .ref (B + (wo 0 + (5 + q3)))), (4, .ref (B + (wo 0 + (17 + 3 * q1)))), (0, .ref (B + 0)), (1, .int x), (2, .int y), (3, .int z)]) hx hb dX6_knows_18 hl (by decide) rfl (fun ls hl => ?_)
      refine lv_aload hx hb dX6_knows_20 (lv_at hl 1 rfl) ?_
      refine lv_ifnull hx hb dX6_knows_22 ?_
      refine lv_aload hx hb dX6_knows_25 (lv_at hl 0 rfl) ?_
      refine lv_ifnonnull (tgt := 32) hx hb dX6_knows_27 (by decide) ?_
      refine lv_iload_n hx hb dX6_knows_32 rfl (lv_at hl 5 rfl) ?_
      refine lv_iconst (v := 2) hx hb dX6_knows_33 (by decide) ?_
      refine kX6_100 X hJ (mX6_isBelow l E B _ z 2) rfl hl.1 ⟨Nat.le_of_ble_eq_true rfl, Nat.le_of_ble_eq_true rfl⟩ ⟨Nat.le_refl _, Nat.le_refl _⟩ (rest := []) rfl (Nat.le_of_ble_eq_true rfl) dX6_knows_34 (fun H locs hJ => ?_)
      refine lv_if_ne (tgt := 43) hx hb dX6_knows_37 (by decide) (fun c_37 => ?_) (fun c_37 => ?_)
      · skip
        refine lv_iload_n hx hb dX6_knows_43 rfl (lv_at hl 5 rfl) ?_
        refine lv_if_ne (tgt := 57) hx hb dX6_knows_44 (by decide) (fun c_44 => ?_) (fun c_44 => ?_)
        · skip
          refine lv_aload hx hb dX6_knows_57 (lv_at hl 1 rfl) ?_
          refine lv_aload hx hb dX6_knows_59 (lv_at hl 0 rfl) ?_
          refine kX6_116 X hJ (mX1_highest l E B _ 0 q1 q3 (g.1 0) (by omega) (by omega) (by omega) rfl) rfl (lt_W (by omega) (by omega)) (at_C (by omega) (by omega) rfl) hl.1 ⟨Nat.le_of_ble_eq_true rfl, Nat.le_of_ble_eq_true rfl⟩ ⟨Nat.le_refl _, Nat.le_refl _⟩ (rest := []) rfl (Nat.le_of_ble_eq_true rfl) dX6_knows_61 (fun H locs hJ => ?_)
          have hs : sX6_knows g x y z = sX1_highest (g.1 0) q1 q3 := by unfold sX6_knows; rw [oe_some o_5, oe_some o_15, if_neg c_37, if_neg c_44]
          exact fin hJ (by rw [hs]) dX6_knows_64
        · skip
          refine lv_aload hx hb dX6_knows_47 (lv_at hl 1 rfl) ?_
          refine lv_aload hx hb dX6_knows_49 (lv_at hl 0 rfl) ?_
          refine kX6_112 X hJ (mX1_lowest l E B _ 0 q1 q3 (g.1 0) (by omega) (by omega) (by omega) rfl) rfl (lt_W (by omega) (by omega)) (at_C (by omega) (by omega) rfl) hl.1 ⟨Nat.le_of_ble_eq_true rfl, Nat.le_of_ble_eq_true rfl⟩ ⟨Nat.le_refl _, Nat.le_refl _⟩ (rest := []) rfl (Nat.le_of_ble_eq_true rfl) dX6_knows_51 (fun H locs hJ => ?_)
          refine lv_goto (tgt := 64) hx hb dX6_knows_54 (by decide) ?_
          have hs : sX6_knows g x y z = sX1_lowest (g.1 0) q1 q3 := by unfold sX6_knows; rw [oe_some o_5, oe_some o_15, if_neg c_37, if_pos c_44]
          exact fin hJ (by rw [hs]) dX6_knows_64
      · skip
        refine lv_bipush (v := (-2)) hx hb dX6_knows_40 (by decide) ?_
        have hs : sX6_knows g x y z = (-2) := by unfold sX6_knows; rw [oe_some o_5, oe_some o_15, if_pos c_37]
        exact fin hJ (by rw [hs]) dX6_knows_42

def sX6_waits (g : GS) (x : Int32) (y : Int32) : Int32 := oe (sX5_bridgeOf (g.1 0) x) ((-1)) (fun q1 => if sX6_isBelow y ((g.1 0) (360 + q1)) = 0 then ((-1)) else (oe (sX5_waiterAt (g.1 0) q1 y) (sX6_numberOfN (-1)) (fun q2 => sX6_numberOfC (g.1 0) q2 (-1))))
set_option maxHeartbeats 4000000 in
set_option maxRecDepth 100000 in
theorem mX6_waits (l : Launch) (E : EE) (B : Nat) (g : GS) (x : Int32) (y : Int32) (hgn : Gn g) : CG l yX6_waits cX6_waits 4 (some .int) 2 46 E B [.ref (B + 0), .int x, .int y] g (some (.int (sX6_waits g x y))) g := by
  refine mkI (own := RX6) (ty := .int) rfl (by decide) rfl (rfl) (Nat.le_of_ble_eq_true rfl) (fun P_ e_ s_ m_ a_ below meth cd Q X fin ls hl hJ => ?_)
  have hx := X.1
  have hb := X.2.1
  have hl : lv_has ls 4 [(0, .ref (B + 0)), (1, .int x), (2, .int y)] := hl
  refine lv_aload_n hx hb dX6_waits_0 rfl (lv_at hl 0 rfl) ?_
  refine gX6_10 X hJ  dX6_waits_1 ?_
  refine lv_iload_n hx hb dX6_waits_4 rfl (lv_at hl 1 rfl) ?_
  refine kX6_96 X hJ (mX5_bridgeOf l E B _ 0 x (g.1 0) (by omega) rfl ((hgn).1 0 (by omega))) rfl (lt_W0 (by omega)) (at_W (by omega) rfl) hl.1 ⟨Nat.le_of_ble_eq_true rfl, Nat.le_of_ble_eq_true rfl⟩ ⟨Nat.le_refl _, Nat.le_refl _⟩ (rest := []) rfl (Nat.le_of_ble_eq_true rfl) dX6_waits_5 (fun H locs hJ => ?_)
  rcases o_5 : sX5_bridgeOf (g.1 0) x with _ | q1
  · skip
    refine lv_astore_nN (lv' := [(3, .null), (0, .ref (B + 0)), (1, .int x), (2, .int y)]) hx hb dX6_waits_8 rfl hl (by decide) rfl (fun ls hl => ?_)
    refine lv_aload_nN hx hb dX6_waits_9 rfl (lv_at hl 0 rfl) ?_
    refine lv_ifnullN (tgt := 24) hx hb dX6_waits_10 (by decide) ?_
    refine lv_iconst (v := (-1)) hx hb dX6_waits_24 (by decide) ?_
    have hs : sX6_waits g x y = (-1) := by unfold sX6_waits; rw [oe_none o_5]
    exact fin hJ (by rw [hs]) dX6_waits_25
  · skip
    obtain ⟨hq1, xq1, yq1⟩ := bridgeOf_some ((hgn).1 0 (by omega)) o_5
    refine lv_astore_n (lv' := [(3, .ref (B + (wo 0 + (5 + q1)))), (0, .ref (B + 0)), (1, .int x), (2, .int y)]) hx hb dX6_waits_8 rfl hl (by decide) rfl (fun ls hl => ?_)
    refine lv_aload_n hx hb dX6_waits_9 rfl (lv_at hl 0 rfl) ?_
    refine lv_ifnull hx hb dX6_waits_10 ?_
    refine lv_iload_n hx hb dX6_waits_13 rfl (lv_at hl 3 rfl) ?_
    refine lv_aload_n hx hb dX6_waits_14 rfl (lv_at hl 0 rfl) ?_
    refine gX6_119 X hJ (k := 0) (w := g.1 0) (by omega) (i := q1) (by omega)  rfl dX6_waits_15 ?_
    refine kX6_100 X hJ (mX6_isBelow l E B _ y ((g.1 0) (360 + q1))) rfl hl.1 ⟨Nat.le_of_ble_eq_true rfl, Nat.le_of_ble_eq_true rfl⟩ ⟨Nat.le_refl _, Nat.le_refl _⟩ (rest := []) rfl (Nat.le_of_ble_eq_true rfl) dX6_waits_18 (fun H locs hJ => ?_)
    refine lv_if_ne (tgt := 26) hx hb dX6_waits_21 (by decide) (fun c_21 => ?_) (fun c_21 => ?_)
    · skip
      refine lv_aload_n hx hb dX6_waits_26 rfl (lv_at hl 1 rfl) ?_
      refine gX6_10 X hJ  dX6_waits_27 ?_
      refine lv_aload_n hx hb dX6_waits_30 rfl (lv_at hl 0 rfl) ?_
      refine lv_iload_n hx hb dX6_waits_31 rfl (lv_at hl 3 rfl) ?_
      refine kX6_122 X hJ (mX5_waiterAt l E B _ 0 q1 y (g.1 0) (by omega) (by omega) rfl ((hgn).1 0 (by omega))) rfl (lt_W0 (by omega)) (at_W (by omega) rfl) hl.1 ⟨Nat.le_of_ble_eq_true rfl, Nat.le_of_ble_eq_true rfl⟩ ⟨Nat.le_refl _, Nat.le_refl _⟩ (rest := []) rfl (Nat.le_of_ble_eq_true rfl) dX6_waits_32 (fun H locs hJ => ?_)
      rcases o_32 : sX5_waiterAt (g.1 0) q1 y with _ | q2
      · skip
        refine lv_iconst (v := (-1)) hx hb dX6_waits_35 (by decide) ?_
        refine kX6_126 X hJ (mX6_numberOfN l E B _ (-1)) rfl hl.1 ⟨Nat.le_of_ble_eq_true rfl, Nat.le_of_ble_eq_true rfl⟩ ⟨Nat.le_refl _, Nat.le_refl _⟩ (rest := []) rfl (Nat.le_of_ble_eq_true rfl) dX6_waits_36 (fun H locs hJ => ?_)
        have hs : sX6_waits g x y = sX6_numberOfN (-1) := by unfold sX6_waits; rw [oe_some o_5, if_neg c_21, oe_none o_32]
        exact fin hJ (by rw [hs]) dX6_waits_39
      · skip
        have hq2 := waiterAt_some ((hgn).1 0 (by omega)) o_32
        refine lv_iconst (v := (-1)) hx hb dX6_waits_35 (by decide) ?_
        refine kX6_126 X hJ (mX6_numberOfC l E B _ 0 q2 (-1) (g.1 0) (by omega) (by omega) rfl) rfl hl.1 ⟨Nat.le_of_ble_eq_true rfl, Nat.le_of_ble_eq_true rfl⟩ ⟨Nat.le_refl _, Nat.le_refl _⟩ (rest := []) rfl (Nat.le_of_ble_eq_true rfl) dX6_waits_36 (fun H locs hJ => ?_)
        have hs : sX6_waits g x y = sX6_numberOfC (g.1 0) q2 (-1) := by unfold sX6_waits; rw [oe_some o_5, if_neg c_21, oe_some o_32]
        exact fin hJ (by rw [hs]) dX6_waits_39
    · skip
      refine lv_iconst (v := (-1)) hx hb dX6_waits_24 (by decide) ?_
      have hs : sX6_waits g x y = (-1) := by unfold sX6_waits; rw [oe_some o_5, if_pos c_21]
      exact fin hJ (by rw [hs]) dX6_waits_25

def sX6_count (g : GS) (x : Int32) : Int32 := if sX6_isBelow x 15 = 0 then ((-2)) else (if x = 13 then (g.2.1 3) else if x = 14 then (g.2.1 1) else (sX5_total (g.1 0) x))
set_option maxHeartbeats 4000000 in
set_option maxRecDepth 100000 in
theorem mX6_count (l : Launch) (E : EE) (B : Nat) (g : GS) (x : Int32) (hgn : Gn g) : CG l yX6_count cX6_count 2 (some .int) 3 66 E B [.ref (B + 0), .int x] g (some (.int (sX6_count g x))) g := by
  refine mkI (own := RX6) (ty := .int) rfl (by decide) rfl (rfl) (Nat.le_of_ble_eq_true rfl) (fun P_ e_ s_ m_ a_ below meth cd Q X fin ls hl hJ => ?_)
  have hx := X.1
  have hb := X.2.1
  have hl : lv_has ls 2 [(0, .ref (B + 0)), (1, .int x)] := hl
  refine lv_iload_n hx hb dX6_count_0 rfl (lv_at hl 1 rfl) ?_
  refine lv_bipush (v := 15) hx hb dX6_count_1 (by decide) ?_
  refine kX6_100 X hJ (mX6_isBelow l E B _ x 15) rfl hl.1 ⟨Nat.le_of_ble_eq_true rfl, Nat.le_of_ble_eq_true rfl⟩ ⟨Nat.le_refl _, Nat.le_refl _⟩ (rest := []) rfl (Nat.le_of_ble_eq_true rfl) dX6_count_3 (fun H locs hJ => ?_)
  refine lv_if_ne (tgt := 12) hx hb dX6_count_6 (by decide) (fun c_6 => ?_) (fun c_6 => ?_)
  · skip
    refine lv_iload_n hx hb dX6_count_12 rfl (lv_at hl 1 rfl) ?_
    by_cases c_13_13 : x = 13
    · rw [c_13_13]
      refine lv_lookup (tgt := 40) hx hb dX6_count_13 (by decide) (off := 27) (by decide) (by decide) ?_
      refine lv_aload_n hx hb dX6_count_40 rfl (lv_at hl 0 rfl) ?_
      refine gX6_37 X hJ  dX6_count_41 ?_
      refine gX6_92 X hJ (w := g.2.1) rfl dX6_count_44 ?_
      have hs : sX6_count g x = g.2.1 3 := by unfold sX6_count; rw [if_neg c_6, if_pos c_13_13]
      exact fin hJ (by rw [hs]) dX6_count_47
    by_cases c_13_14 : x = 14
    · rw [c_13_14]
      refine lv_lookup (tgt := 48) hx hb dX6_count_13 (by decide) (off := 35) (by decide) (by decide) ?_
      refine lv_aload_n hx hb dX6_count_48 rfl (lv_at hl 0 rfl) ?_
      refine gX6_22 X hJ  dX6_count_49 ?_
      refine gX6_133 X hJ (w := g.2.1) rfl dX6_count_52 ?_
      have hs : sX6_count g x = g.2.1 1 := by unfold sX6_count; rw [if_neg c_6, if_neg c_13_13, if_pos c_13_14]
      exact fin hJ (by rw [hs]) dX6_count_55
    have e13 := ne_toInt (n := 13) c_13_13 (by decide)
    have e14 := ne_toInt (n := 14) c_13_14 (by decide)
    refine lv_lookup (tgt := 56) hx hb dX6_count_13 (by decide) (off := 43) (by show (if (13 : Int) = (x).toInt then (27 : Int) else if (14 : Int) = (x).toInt then (35 : Int) else (43 : Int)) = (43 : Int); rw [if_neg (by omega), if_neg (by omega)]) (by decide) ?_
    refine lv_aload_n hx hb dX6_count_56 rfl (lv_at hl 0 rfl) ?_
    refine gX6_10 X hJ  dX6_count_57 ?_
    refine lv_iload_n hx hb dX6_count_60 rfl (lv_at hl 1 rfl) ?_
    refine kX6_136 X hJ (mX5_total l E B _ 0 x (g.1 0) (by omega) rfl ((hgn).1 0 (by omega))) rfl (lt_W0 (by omega)) (at_W (by omega) rfl) hl.1 ⟨Nat.le_of_ble_eq_true rfl, Nat.le_of_ble_eq_true rfl⟩ ⟨Nat.le_refl _, Nat.le_refl _⟩ (rest := []) rfl (Nat.le_of_ble_eq_true rfl) dX6_count_61 (fun H locs hJ => ?_)
    have hs : sX6_count g x = sX5_total (g.1 0) x := by unfold sX6_count; rw [if_neg c_6, if_neg c_13_13, if_neg c_13_14]
    exact fin hJ (by rw [hs]) dX6_count_64
  · skip
    refine lv_bipush (v := (-2)) hx hb dX6_count_9 (by decide) ?_
    have hs : sX6_count g x = (-2) := by unfold sX6_count; rw [if_pos c_6]
    exact fin hJ (by rw [hs]) dX6_count_11

def sX6_next (g : GS) (x : Int32) : Int32 := oe (sX5_bridgeOf (g.1 0) x) ((-1)) (fun q1 => oe (sX5_comerOver (g.1 0) q1) (sX6_numberOfN (-6)) (fun q2 => sX6_numberOfC (g.1 0) q2 (-6)))
set_option maxHeartbeats 4000000 in
set_option maxRecDepth 100000 in
theorem mX6_next (l : Launch) (E : EE) (B : Nat) (g : GS) (x : Int32) (hgn : Gn g) : CG l yX6_next cX6_next 3 (some .int) 3 70 E B [.ref (B + 0), .int x] g (some (.int (sX6_next g x))) g := by
  refine mkI (own := RX6) (ty := .int) rfl (by decide) rfl (rfl) (Nat.le_of_ble_eq_true rfl) (fun P_ e_ s_ m_ a_ below meth cd Q X fin ls hl hJ => ?_)
  have hx := X.1
  have hb := X.2.1
  have hl : lv_has ls 3 [(0, .ref (B + 0)), (1, .int x)] := hl
  refine lv_aload_n hx hb dX6_next_0 rfl (lv_at hl 0 rfl) ?_
  refine gX6_10 X hJ  dX6_next_1 ?_
  refine lv_iload_n hx hb dX6_next_4 rfl (lv_at hl 1 rfl) ?_
  refine kX6_96 X hJ (mX5_bridgeOf l E B _ 0 x (g.1 0) (by omega) rfl ((hgn).1 0 (by omega))) rfl (lt_W0 (by omega)) (at_W (by omega) rfl) hl.1 ⟨Nat.le_of_ble_eq_true rfl, Nat.le_of_ble_eq_true rfl⟩ ⟨Nat.le_refl _, Nat.le_refl _⟩ (rest := []) rfl (Nat.le_of_ble_eq_true rfl) dX6_next_5 (fun H locs hJ => ?_)
  rcases o_5 : sX5_bridgeOf (g.1 0) x with _ | q1
  · skip
    refine lv_astore_nN (lv' := [(2, .null), (0, .ref (B + 0)), (1, .int x)]) hx hb dX6_next_8 rfl hl (by decide) rfl (fun ls hl => ?_)
    refine lv_aload_nN hx hb dX6_next_9 rfl (lv_at hl 0 rfl) ?_
    refine lv_ifnonnullN hx hb dX6_next_10 ?_
    refine lv_iconst (v := (-1)) hx hb dX6_next_13 (by decide) ?_
    refine lv_goto (tgt := 30) hx hb dX6_next_14 (by decide) ?_
    have hs : sX6_next g x = (-1) := by unfold sX6_next; rw [oe_none o_5]
    exact fin hJ (by rw [hs]) dX6_next_30
  · skip
    obtain ⟨hq1, xq1, yq1⟩ := bridgeOf_some ((hgn).1 0 (by omega)) o_5
    refine lv_astore_n (lv' := [(2, .ref (B + (wo 0 + (5 + q1)))), (0, .ref (B + 0)), (1, .int x)]) hx hb dX6_next_8 rfl hl (by decide) rfl (fun ls hl => ?_)
    refine lv_aload_n hx hb dX6_next_9 rfl (lv_at hl 0 rfl) ?_
    refine lv_ifnonnull (tgt := 17) hx hb dX6_next_10 (by decide) ?_
    refine lv_aload_n hx hb dX6_next_17 rfl (lv_at hl 1 rfl) ?_
    refine gX6_10 X hJ  dX6_next_18 ?_
    refine lv_aload_n hx hb dX6_next_21 rfl (lv_at hl 0 rfl) ?_
    refine kX6_139 X hJ (mX5_comerOver l E B _ 0 q1 (g.1 0) (by omega) (by omega) rfl ((hgn).1 0 (by omega))) rfl (lt_W0 (by omega)) (at_W (by omega) rfl) hl.1 ⟨Nat.le_of_ble_eq_true rfl, Nat.le_of_ble_eq_true rfl⟩ ⟨Nat.le_refl _, Nat.le_refl _⟩ (rest := []) rfl (Nat.le_of_ble_eq_true rfl) dX6_next_22 (fun H locs hJ => ?_)
    rcases o_22 : sX5_comerOver (g.1 0) q1 with _ | q2
    · skip
      refine lv_bipush (v := (-6)) hx hb dX6_next_25 (by decide) ?_
      refine kX6_126 X hJ (mX6_numberOfN l E B _ (-6)) rfl hl.1 ⟨Nat.le_of_ble_eq_true rfl, Nat.le_of_ble_eq_true rfl⟩ ⟨Nat.le_refl _, Nat.le_refl _⟩ (rest := []) rfl (Nat.le_of_ble_eq_true rfl) dX6_next_27 (fun H locs hJ => ?_)
      have hs : sX6_next g x = sX6_numberOfN (-6) := by unfold sX6_next; rw [oe_some o_5, oe_none o_22]
      exact fin hJ (by rw [hs]) dX6_next_30
    · skip
      have hq2 := comerOver_some (by omega) ((hgn).1 0 (by omega)) o_22
      refine lv_bipush (v := (-6)) hx hb dX6_next_25 (by decide) ?_
      refine kX6_126 X hJ (mX6_numberOfC l E B _ 0 q2 (-6) (g.1 0) (by omega) (by omega) rfl) rfl hl.1 ⟨Nat.le_of_ble_eq_true rfl, Nat.le_of_ble_eq_true rfl⟩ ⟨Nat.le_refl _, Nat.le_refl _⟩ (rest := []) rfl (Nat.le_of_ble_eq_true rfl) dX6_next_27 (fun H locs hJ => ?_)
      have hs : sX6_next g x = sX6_numberOfC (g.1 0) q2 (-6) := by unfold sX6_next; rw [oe_some o_5, oe_some o_22]
      exact fin hJ (by rw [hs]) dX6_next_30

def sX6_why (g : GS) (x : Int32) : Int32 := oe (sX5_cartOf (g.1 0) x) ((-1)) (fun q1 => sX5_reasonToStay (g.1 0) q1)
set_option maxHeartbeats 4000000 in
set_option maxRecDepth 100000 in
theorem mX6_why (l : Launch) (E : EE) (B : Nat) (g : GS) (x : Int32) (hgn : Gn g) : CG l yX6_why cX6_why 3 (some .int) 4 93 E B [.ref (B + 0), .int x] g (some (.int (sX6_why g x))) g := by
  refine mkI (own := RX6) (ty := .int) rfl (by decide) rfl (rfl) (Nat.le_of_ble_eq_true rfl) (fun P_ e_ s_ m_ a_ below meth cd Q X fin ls hl hJ => ?_)
  have hx := X.1
  have hb := X.2.1
  have hl : lv_has ls 3 [(0, .ref (B + 0)), (1, .int x)] := hl
  refine lv_aload_n hx hb dX6_why_0 rfl (lv_at hl 0 rfl) ?_
  refine gX6_10 X hJ  dX6_why_1 ?_
  refine lv_iload_n hx hb dX6_why_4 rfl (lv_at hl 1 rfl) ?_
  refine kX6_81 X hJ (mX5_cartOf l E B _ 0 x (g.1 0) (by omega) rfl ((hgn).1 0 (by omega))) rfl (lt_W0 (by omega)) (at_W (by omega) rfl) hl.1 ⟨Nat.le_of_ble_eq_true rfl, Nat.le_of_ble_eq_true rfl⟩ ⟨Nat.le_refl _, Nat.le_refl _⟩ (rest := []) rfl (Nat.le_of_ble_eq_true rfl) dX6_why_5 (fun H locs hJ => ?_)
  rcases o_5 : sX5_cartOf (g.1 0) x with _ | q1
  · skip
    refine lv_astore_nN (lv' := [(2, .null), (0, .ref (B + 0)), (1, .int x)]) hx hb dX6_why_8 rfl hl (by decide) rfl (fun ls hl => ?_)
    refine lv_aload_nN hx hb dX6_why_9 rfl (lv_at hl 0 rfl) ?_
    refine lv_ifnonnullN hx hb dX6_why_10 ?_
    refine lv_iconst (v := (-1)) hx hb dX6_why_13 (by decide) ?_
    refine lv_goto (tgt := 25) hx hb dX6_why_14 (by decide) ?_
    have hs : sX6_why g x = (-1) := by unfold sX6_why; rw [oe_none o_5]
    exact fin hJ (by rw [hs]) dX6_why_25
  · skip
    obtain ⟨hq1, xq1, yq1⟩ := cartOf_some ((hgn).1 0 (by omega)) o_5
    refine lv_astore_n (lv' := [(2, .ref (B + (wo 0 + (17 + 3 * q1)))), (0, .ref (B + 0)), (1, .int x)]) hx hb dX6_why_8 rfl hl (by decide) rfl (fun ls hl => ?_)
    refine lv_aload_n hx hb dX6_why_9 rfl (lv_at hl 0 rfl) ?_
    refine lv_ifnonnull (tgt := 17) hx hb dX6_why_10 (by decide) ?_
    refine lv_aload_n hx hb dX6_why_17 rfl (lv_at hl 1 rfl) ?_
    refine gX6_10 X hJ  dX6_why_18 ?_
    refine lv_aload_n hx hb dX6_why_21 rfl (lv_at hl 0 rfl) ?_
    refine kX6_143 X hJ (mX5_reasonToStay l E B _ 0 q1 (g.1 0) (by omega) (by omega) rfl ((hgn).1 0 (by omega))) rfl (lt_W0 (by omega)) (at_W (by omega) rfl) hl.1 ⟨Nat.le_of_ble_eq_true rfl, Nat.le_of_ble_eq_true rfl⟩ ⟨Nat.le_refl _, Nat.le_refl _⟩ (rest := []) rfl (Nat.le_of_ble_eq_true rfl) dX6_why_22 (fun H locs hJ => ?_)
    have hs : sX6_why g x = sX5_reasonToStay (g.1 0) q1 := by unfold sX6_why; rw [oe_some o_5]
    exact fin hJ (by rw [hs]) dX6_why_25

def sX6_wins (g : GS) (x : Int32) (y : Int32) (z : Int32) (v : Int32) : Int32 := oe (sX5_cartOf (g.1 0) x) (oe (sX5_bridgeOf (g.1 0) y) ((-1)) (fun q2 => (-1))) (fun q1 => oe (sX5_bridgeOf (g.1 0) y) ((-1)) (fun q3 => if sX6_isBelow z ((g.1 0) (20 + 7 * q3 + 2)) = 0 then ((-2)) else (if sX6_isBelow v ((g.1 0) (20 + 7 * q3 + 2)) = 0 then ((-2)) else (sX1_numbersNearer (g.1 0) q1 q3 z v))))
set_option maxHeartbeats 4000000 in
set_option maxRecDepth 100000 in
theorem mX6_wins (l : Launch) (E : EE) (B : Nat) (g : GS) (x : Int32) (y : Int32) (z : Int32) (v : Int32) (hgn : Gn g) : CG l yX6_wins cX6_wins 7 (some .int) 2 45 E B [.ref (B + 0), .int x, .int y, .int z, .int v] g (some (.int (sX6_wins g x y z v))) g := by
  refine mkI (own := RX6) (ty := .int) rfl (by decide) rfl (rfl) (Nat.le_of_ble_eq_true rfl) (fun P_ e_ s_ m_ a_ below meth cd Q X fin ls hl hJ => ?_)
  have hx := X.1
  have hb := X.2.1
  have hl : lv_has ls 7 [(0, .ref (B + 0)), (1, .int x), (2, .int y), (3, .int z), (4, .int v)] := hl
  refine lv_aload_n hx hb dX6_wins_0 rfl (lv_at hl 0 rfl) ?_
  refine gX6_10 X hJ  dX6_wins_1 ?_
  refine lv_iload_n hx hb dX6_wins_4 rfl (lv_at hl 1 rfl) ?_
  refine kX6_81 X hJ (mX5_cartOf l E B _ 0 x (g.1 0) (by omega) rfl ((hgn).1 0 (by omega))) rfl (lt_W0 (by omega)) (at_W (by omega) rfl) hl.1 ⟨Nat.le_of_ble_eq_true rfl, Nat.le_of_ble_eq_true rfl⟩ ⟨Nat.le_refl _, Nat.le_refl _⟩ (rest := []) rfl (Nat.le_of_ble_eq_true rfl) dX6_wins_5 (fun H locs hJ => ?_)
  rcases o_5 : sX5_cartOf (g.1 0) x with _ | q1
  · skip
    refine lv_astoreN (lv' := [(5, .null), (0, .ref (B + 0)), (1, .int x), (2, .int y), (3, .int z), (4, .int v)]) hx hb dX6_wins_8 hl (by decide) rfl (fun ls hl => ?_)
    refine lv_aload_n hx hb dX6_wins_10 rfl (lv_at hl 1 rfl) ?_
    refine gX6_10 X hJ  dX6_wins_11 ?_
    refine lv_iload_n hx hb dX6_wins_14 rfl (lv_at hl 3 rfl) ?_
    refine kX6_96 X hJ (mX5_bridgeOf l E B _ 0 y (g.1 0) (by omega) rfl ((hgn).1 0 (by omega))) rfl (lt_W0 (by omega)) (at_W (by omega) rfl) hl.1 ⟨Nat.le_of_ble_eq_true rfl, Nat.le_of_ble_eq_true rfl⟩ ⟨Nat.le_refl _, Nat.le_refl _⟩ (rest := []) rfl (Nat.le_of_ble_eq_true rfl) dX6_wins_15 (fun H locs hJ => ?_)
    rcases o_15 : sX5_bridgeOf (g.1 0) y with _ | q2
    · skip
      refine lv_astoreN (lv' := [(6, .null), (5, .null), (0, .ref (B + 0)), (1, .int x), (2, .int y), (3, .int z), (4, .int v)]) hx hb dX6_wins_18 hl (by decide) rfl (fun ls hl => ?_)
      refine lv_aloadN hx hb dX6_wins_20 (lv_at hl 1 rfl) ?_
      refine lv_ifnullN (tgt := 30) hx hb dX6_wins_22 (by decide) ?_
      refine lv_iconst (v := (-1)) hx hb dX6_wins_30 (by decide) ?_
      have hs : sX6_wins g x y z v = (-1) := by unfold sX6_wins; rw [oe_none o_5, oe_none o_15]
      exact fin hJ (by rw [hs]) dX6_wins_31
    · skip
      obtain ⟨hq2, xq2, yq2⟩ := bridgeOf_some ((hgn).1 0 (by omega)) o_15
      refine lv_astore (lv' := [(6, .ref (B + (wo 0 + (5 + q2)))), (5, .null), (0, .ref (B + 0)), (1, .int x), (2, .int y), (3, .int z), (4, .int v)]) hx hb dX6_wins_18 hl (by decide) rfl (fun ls hl => ?_)
      refine lv_aloadN hx hb dX6_wins_20 (lv_at hl 1 rfl) ?_
      refine lv_ifnullN (tgt := 30) hx hb dX6_wins_22 (by decide) ?_
      refine lv_iconst (v := (-1)) hx hb dX6_wins_30 (by decide) ?_
      have hs : sX6_wins g x y z v = (-1) := by unfold sX6_wins; rw [oe_none o_5, oe_some o_15]
      exact fin hJ (by rw [hs]) dX6_wins_31
  · skip
    obtain ⟨hq1, xq1, yq1⟩ := cartOf_some ((hgn).1 0 (by omega)) o_5
    refine lv_astore (lv' := [(5, .ref (B + (wo 0 + (17 + 3 * q1)))), (0, .ref (B + 0)), (1, .int x), (2, .int y), (3, .int z), (4, .int v)]) hx hb dX6_wins_8 hl (by decide) rfl (fun ls hl => ?_)
    refine lv_aload_n hx hb dX6_wins_10 rfl (lv_at hl 1 rfl) ?_
    refine gX6_10 X hJ  dX6_wins_11 ?_
    refine lv_iload_n hx hb dX6_wins_14 rfl (lv_at hl 3 rfl) ?_
    refine kX6_96 X hJ (mX5_bridgeOf l E B _ 0 y (g.1 0) (by omega) rfl ((hgn).1 0 (by omega))) rfl (lt_W0 (by omega)) (at_W (by omega) rfl) hl.1 ⟨Nat.le_of_ble_eq_true rfl, Nat.le_of_ble_eq_true rfl⟩ ⟨Nat.le_refl _, Nat.le_refl _⟩ (rest := []) rfl (Nat.le_of_ble_eq_true rfl) dX6_wins_15 (fun H locs hJ => ?_)
    rcases o_15 : sX5_bridgeOf (g.1 0) y with _ | q3
    · skip
      refine lv_astoreN (lv' := [(6, .null), (5, .ref (B + (wo 0 + (17 + 3 * q1)))), (0, .ref (B + 0)), (1, .int x), (2, .int y), (3, .int z), (4, .int v)]) hx hb dX6_wins_18 hl (by decide) rfl (fun ls hl => ?_)
      refine lv_aload hx hb dX6_wins_20 (lv_at hl 1 rfl) ?_
      refine lv_ifnull hx hb dX6_wins_22 ?_
      refine lv_aloadN hx hb dX6_wins_25 (lv_at hl 0 rfl) ?_
      refine lv_ifnonnullN hx hb dX6_wins_27 ?_
      refine lv_iconst (v := (-1)) hx hb dX6_wins_30 (by decide) ?_
      have hs : sX6_wins g x y z v = (-1) := by unfold sX6_wins; rw [oe_some o_5, oe_none o_15]
      exact fin hJ (by rw [hs]) dX6_wins_31
    · skip
      obtain ⟨hq3, xq3, yq3⟩ := bridgeOf_some ((hgn).1 0 (by omega)) o_15
      refine lv_astore (lv' := [(6, .ref (B + (wo 0 + (5 + q3)))), (5, .ref (B + (wo 0 + (17 + 3 * q1)))), (0, .ref (B + 0)), (1, .int x), (2, .int y), (3, .int z), (4, .int v)]) hx hb dX6_wins_18 hl (by decide) rfl (fun ls hl => ?_)
      refine lv_aload hx hb dX6_wins_20 (lv_at hl 1 rfl) ?_
      refine lv_ifnull hx hb dX6_wins_22 ?_
      refine lv_aload hx hb dX6_wins_25 (lv_at hl 0 rfl) ?_
      refine lv_ifnonnull (tgt := 32) hx hb dX6_wins_27 (by decide) ?_
      refine lv_iload_n hx hb dX6_wins_32 rfl (lv_at hl 5 rfl) ?_
      refine lv_aload hx hb dX6_wins_33 (lv_at hl 0 rfl) ?_
      refine gX6_158 X hJ (k := 0) (w := g.1 0) (by omega) (i := q3) (by omega)  rfl dX6_wins_35 ?_
      refine kX6_100 X hJ (mX6_isBelow l E B _ z ((g.1 0) (20 + 7 * q3 + 2))) rfl hl.1 ⟨Nat.le_of_ble_eq_true rfl, Nat.le_of_ble_eq_true rfl⟩ ⟨Nat.le_refl _, Nat.le_refl _⟩ (rest := []) rfl (Nat.le_of_ble_eq_true rfl) dX6_wins_38 (fun H locs hJ => ?_)
      refine lv_if_eq (tgt := 57) hx hb dX6_wins_41 (by decide) (fun c_41 => ?_) (fun c_41 => ?_)
      · skip
        refine lv_bipush (v := (-2)) hx hb dX6_wins_57 (by decide) ?_
        have hs : sX6_wins g x y z v = (-2) := by unfold sX6_wins; rw [oe_some o_5, oe_some o_15, if_pos c_41]
        exact fin hJ (by rw [hs]) dX6_wins_59
      · skip
        refine lv_iload hx hb dX6_wins_44 (lv_at hl 6 rfl) ?_
        refine lv_aload hx hb dX6_wins_46 (lv_at hl 0 rfl) ?_
        refine gX6_158 X hJ (k := 0) (w := g.1 0) (by omega) (i := q3) (by omega)  rfl dX6_wins_48 ?_
        refine kX6_100 X hJ (mX6_isBelow l E B _ v ((g.1 0) (20 + 7 * q3 + 2))) rfl hl.1 ⟨Nat.le_of_ble_eq_true rfl, Nat.le_of_ble_eq_true rfl⟩ ⟨Nat.le_refl _, Nat.le_refl _⟩ (rest := []) rfl (Nat.le_of_ble_eq_true rfl) dX6_wins_51 (fun H locs hJ => ?_)
        refine lv_if_ne (tgt := 60) hx hb dX6_wins_54 (by decide) (fun c_54 => ?_) (fun c_54 => ?_)
        · skip
          refine lv_aload hx hb dX6_wins_60 (lv_at hl 1 rfl) ?_
          refine lv_aload hx hb dX6_wins_62 (lv_at hl 0 rfl) ?_
          refine lv_iload_n hx hb dX6_wins_64 rfl (lv_at hl 5 rfl) ?_
          refine lv_iload hx hb dX6_wins_65 (lv_at hl 6 rfl) ?_
          refine kX6_161 X hJ (mX1_numbersNearer l E B _ 0 q1 q3 z v (g.1 0) (by omega) (by omega) (by omega) rfl) rfl (lt_W (by omega) (by omega)) (at_C (by omega) (by omega) rfl) hl.1 ⟨Nat.le_of_ble_eq_true rfl, Nat.le_of_ble_eq_true rfl⟩ ⟨Nat.le_refl _, Nat.le_refl _⟩ (rest := []) rfl (Nat.le_of_ble_eq_true rfl) dX6_wins_67 (fun H locs hJ => ?_)
          have hs : sX6_wins g x y z v = sX1_numbersNearer (g.1 0) q1 q3 z v := by unfold sX6_wins; rw [oe_some o_5, oe_some o_15, if_neg c_41, if_neg c_54]
          exact fin hJ (by rw [hs]) dX6_wins_70
        · skip
          refine lv_bipush (v := (-2)) hx hb dX6_wins_57 (by decide) ?_
          have hs : sX6_wins g x y z v = (-2) := by unfold sX6_wins; rw [oe_some o_5, oe_some o_15, if_neg c_41, if_pos c_54]
          exact fin hJ (by rw [hs]) dX6_wins_59

