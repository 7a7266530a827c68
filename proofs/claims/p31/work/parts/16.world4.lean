def sX5_changeSetting (w : Row) (x : Int32) (v : Int32) : Int32 × Row := if sX6_isBelow x 4 = 0 then (((-2), w)) else (if v < st_least (nn x) then (((-2), w)) else (if v ≤ st_most (nn x) then ((w (nn x), upd w (nn x) v)) else (((-2), w))))
set_option maxHeartbeats 4000000 in
set_option maxRecDepth 100000 in
theorem mX5_changeSetting (l : Launch) (E : EE) (B : Nat) (g : GS) (k : Nat) (x : Int32) (v : Int32) (w : Row) (hk : k < 11)  : CG l yX5_changeSetting cX5_changeSetting 4 (some .int) 1 21 E B [.ref (B + wo k), .int x, .int v] (upW g k w) (some (.int (sX5_changeSetting w x v).1)) (upW g k ((sX5_changeSetting w x v).2)) := by
  refine mkI (own := RX5) (ty := .int) rfl (by decide) rfl (rfl) (Nat.le_of_ble_eq_true rfl) (fun P_ e_ s_ m_ a_ below meth cd Q X fin ls hl hJ => ?_)
  have hx := X.1
  have hb := X.2.1
  have hl : lv_has ls 4 [(0, .ref (B + wo k)), (1, .int x), (2, .int v)] := hl
  refine lv_iload_n hx hb dX5_changeSetting_0 rfl (lv_at hl 1 rfl) ?_
  refine lv_iconst (v := 4) hx hb dX5_changeSetting_1 (by decide) ?_
  refine kX5_72 X hJ (mX6_isBelow l E B _ x 4) rfl hl.1 ⟨Nat.le_of_ble_eq_true rfl, Nat.le_of_ble_eq_true rfl⟩ ⟨Nat.le_refl _, Nat.le_refl _⟩ (rest := []) rfl (Nat.le_of_ble_eq_true rfl) dX5_changeSetting_2 (fun H locs hJ => ?_)
  refine lv_if_eq (tgt := 26) hx hb dX5_changeSetting_5 (by decide) (fun c_5 => ?_) (fun c_5 => ?_)
  · skip
    refine lv_bipush (v := (-2)) hx hb dX5_changeSetting_26 (by decide) ?_
    have hs : sX5_changeSetting w x v = ((-2), w) := by unfold sX5_changeSetting; rw [if_pos c_5]
    exact fin (by rw [hs]; dsimp only; exact hJ) (by rw [hs]) dX5_changeSetting_28
  · skip
    refine lv_iload_n hx hb dX5_changeSetting_8 rfl (lv_at hl 2 rfl) ?_
    refine rgetsN X hJ X.2.2.2.2.2.2.2.1.2.1 X.2.2.2.2.2.2.1.2.1 dX5_changeSetting_9 (fun t1 ht1 => ?_)
    refine lv_iload_n hx hb dX5_changeSetting_12 rfl (lv_at hl 1 rfl) ?_
    refine cvt (y := nI (nn x)) ((isB_of c_5 (show sm 4 4 from ⟨by decide, by decide⟩)).1) ?_
    refine rsld X hJ ht1 (j := nn x) (rfl) ((isB_of c_5 (show sm 4 4 from ⟨by decide, by decide⟩)).2.2) dX5_changeSetting_13 ?_
    refine lv_icmp_lt (tgt := 26) hx hb dX5_changeSetting_14 (by decide) (fun c_14 => ?_) (fun c_14 => ?_)
    · skip
      refine lv_bipush (v := (-2)) hx hb dX5_changeSetting_26 (by decide) ?_
      have hs : sX5_changeSetting w x v = ((-2), w) := by unfold sX5_changeSetting; rw [if_neg c_5, if_pos c_14]
      exact fin (by rw [hs]; dsimp only; exact hJ) (by rw [hs]) dX5_changeSetting_28
    · skip
      refine lv_iload_n hx hb dX5_changeSetting_17 rfl (lv_at hl 2 rfl) ?_
      refine rgetsN X hJ X.2.2.2.2.2.2.2.1.2.2 X.2.2.2.2.2.2.1.2.2.1 dX5_changeSetting_18 (fun t2 ht2 => ?_)
      refine lv_iload_n hx hb dX5_changeSetting_21 rfl (lv_at hl 1 rfl) ?_
      refine cvt (y := nI (nn x)) ((isB_of c_5 (show sm 4 4 from ⟨by decide, by decide⟩)).1) ?_
      refine rsld X hJ ht2 (j := nn x) (rfl) ((isB_of c_5 (show sm 4 4 from ⟨by decide, by decide⟩)).2.2) dX5_changeSetting_22 ?_
      refine lv_icmp_le (tgt := 29) hx hb dX5_changeSetting_23 (by decide) (fun c_23 => ?_) (fun c_23 => ?_)
      · skip
        refine lv_aload_n hx hb dX5_changeSetting_29 rfl (lv_at hl 0 rfl) ?_
        refine gX5_9 X hJ (k := k) (w := w) (by omega) upW_1 dX5_changeSetting_30 ?_
        refine lv_iload_n hx hb dX5_changeSetting_33 rfl (lv_at hl 1 rfl) ?_
        refine cvt (y := nI (nn x)) ((isB_of c_5 (show sm 4 4 from ⟨by decide, by decide⟩)).1) ?_
        refine ld_set X hJ (k := k) (w := w) (by omega) upW_1 (j := nn x) (rfl) ((isB_of c_5 (show sm 4 4 from ⟨by decide, by decide⟩)).2.2) dX5_changeSetting_34 ?_
        refine lv_istore_n (lv' := [(3, .int (w (nn x))), (0, .ref (B + wo k)), (1, .int x), (2, .int v)]) hx hb dX5_changeSetting_35 rfl hl (by decide) rfl (fun ls hl => ?_)
        refine lv_aload_n hx hb dX5_changeSetting_36 rfl (lv_at hl 1 rfl) ?_
        refine gX5_9 X hJ (k := k) (w := w) (by omega) upW_1 dX5_changeSetting_37 ?_
        refine lv_iload_n hx hb dX5_changeSetting_40 rfl (lv_at hl 2 rfl) ?_
        refine cvt (y := nI (nn x)) ((isB_of c_5 (show sm 4 4 from ⟨by decide, by decide⟩)).1) ?_
        refine lv_iload_n hx hb dX5_changeSetting_41 rfl (lv_at hl 3 rfl) ?_
        refine st_set X hJ (k := k) (by omega) (j := nn x) (rfl) ((isB_of c_5 (show sm 4 4 from ⟨by decide, by decide⟩)).2.2) dX5_changeSetting_42 (fun H locs hJ => ?_)
        refine lv_iload_n hx hb dX5_changeSetting_43 rfl (lv_at hl 0 rfl) ?_
        have hs : sX5_changeSetting w x v = (w (nn x), upd w (nn x) v) := by unfold sX5_changeSetting; rw [if_neg c_5, if_neg c_14, if_pos c_23]
        exact fin (by rw [hs]; dsimp only; exact hJ) (by rw [hs]) dX5_changeSetting_44
      · skip
        refine lv_bipush (v := (-2)) hx hb dX5_changeSetting_26 (by decide) ?_
        have hs : sX5_changeSetting w x v = ((-2), w) := by unfold sX5_changeSetting; rw [if_neg c_5, if_neg c_14, if_neg c_23]
        exact fin (by rw [hs]; dsimp only; exact hJ) (by rw [hs]) dX5_changeSetting_28

def sX5_addBridge (w : Row) (x : Int32) (y : Int32) (z : Int32) : Int32 × Row := if sX6_isBelow x 8 = 0 then (((-1), w)) else (if sX6_isBelow y 8 = 0 then (((-1), w)) else (if x = y then (((-2), w)) else (if z < 2 then (((-2), w)) else (if z ≤ 1000 then (if w 5 < 12 then ((nI (nn (w 5)), upd (sX5_drawRiddle (upd (upd (upd w (20 + 7 * (nn (w 5))) x) (20 + 7 * (nn (w 5)) + 1) y) (20 + 7 * (nn (w 5)) + 2) z) (nn (w 5))) (5) (((sX5_drawRiddle (upd (upd (upd w (20 + 7 * (nn (w 5))) x) (20 + 7 * (nn (w 5)) + 1) y) (20 + 7 * (nn (w 5)) + 2) z) (nn (w 5))) 5) + 1))) else (((-4), w))) else (((-2), w))))))
set_option maxHeartbeats 4000000 in
set_option maxRecDepth 100000 in
theorem mX5_addBridge (l : Launch) (E : EE) (B : Nat) (g : GS) (k : Nat) (x : Int32) (y : Int32) (z : Int32) (w : Row) (hk : k < 11)  (hcn : Cn w) : CG l yX5_addBridge cX5_addBridge 5 (some .int) 2 43 E B [.ref (B + wo k), .int x, .int y, .int z] (upW g k w) (some (.int (sX5_addBridge w x y z).1)) (upW g k ((sX5_addBridge w x y z).2)) := by
  refine mkI (own := RX5) (ty := .int) rfl (by decide) rfl (rfl) (Nat.le_of_ble_eq_true rfl) (fun P_ e_ s_ m_ a_ below meth cd Q X fin ls hl hJ => ?_)
  have hx := X.1
  have hb := X.2.1
  have hl : lv_has ls 5 [(0, .ref (B + wo k)), (1, .int x), (2, .int y), (3, .int z)] := hl
  refine lv_iload_n hx hb dX5_addBridge_0 rfl (lv_at hl 1 rfl) ?_
  refine lv_bipush (v := 8) hx hb dX5_addBridge_1 (by decide) ?_
  refine kX5_72 X hJ (mX6_isBelow l E B _ x 8) rfl hl.1 ⟨Nat.le_of_ble_eq_true rfl, Nat.le_of_ble_eq_true rfl⟩ ⟨Nat.le_refl _, Nat.le_refl _⟩ (rest := []) rfl (Nat.le_of_ble_eq_true rfl) dX5_addBridge_3 (fun H locs hJ => ?_)
  refine lv_if_eq (tgt := 18) hx hb dX5_addBridge_6 (by decide) (fun c_6 => ?_) (fun c_6 => ?_)
  · skip
    refine lv_iconst (v := (-1)) hx hb dX5_addBridge_18 (by decide) ?_
    have hs : sX5_addBridge w x y z = ((-1), w) := by unfold sX5_addBridge; rw [if_pos c_6]
    exact fin (by rw [hs]; dsimp only; exact hJ) (by rw [hs]) dX5_addBridge_19
  · skip
    refine lv_iload_n hx hb dX5_addBridge_9 rfl (lv_at hl 2 rfl) ?_
    refine lv_bipush (v := 8) hx hb dX5_addBridge_10 (by decide) ?_
    refine kX5_72 X hJ (mX6_isBelow l E B _ y 8) rfl hl.1 ⟨Nat.le_of_ble_eq_true rfl, Nat.le_of_ble_eq_true rfl⟩ ⟨Nat.le_refl _, Nat.le_refl _⟩ (rest := []) rfl (Nat.le_of_ble_eq_true rfl) dX5_addBridge_12 (fun H locs hJ => ?_)
    refine lv_if_ne (tgt := 20) hx hb dX5_addBridge_15 (by decide) (fun c_15 => ?_) (fun c_15 => ?_)
    · skip
      refine lv_iload_n hx hb dX5_addBridge_20 rfl (lv_at hl 1 rfl) ?_
      refine lv_iload_n hx hb dX5_addBridge_21 rfl (lv_at hl 2 rfl) ?_
      refine lv_icmp_eq (tgt := 37) hx hb dX5_addBridge_22 (by decide) (fun c_22 => ?_) (fun c_22 => ?_)
      · skip
        refine lv_bipush (v := (-2)) hx hb dX5_addBridge_37 (by decide) ?_
        have hs : sX5_addBridge w x y z = ((-2), w) := by unfold sX5_addBridge; rw [if_neg c_6, if_neg c_15, if_pos c_22]
        exact fin (by rw [hs]; dsimp only; exact hJ) (by rw [hs]) dX5_addBridge_39
      · skip
        refine lv_iload_n hx hb dX5_addBridge_25 rfl (lv_at hl 3 rfl) ?_
        refine lv_iconst (v := 2) hx hb dX5_addBridge_26 (by decide) ?_
        refine lv_icmp_lt (tgt := 37) hx hb dX5_addBridge_27 (by decide) (fun c_27 => ?_) (fun c_27 => ?_)
        · skip
          refine lv_bipush (v := (-2)) hx hb dX5_addBridge_37 (by decide) ?_
          have hs : sX5_addBridge w x y z = ((-2), w) := by unfold sX5_addBridge; rw [if_neg c_6, if_neg c_15, if_neg c_22, if_pos c_27]
          exact fin (by rw [hs]; dsimp only; exact hJ) (by rw [hs]) dX5_addBridge_39
        · skip
          refine lv_iload_n hx hb dX5_addBridge_30 rfl (lv_at hl 3 rfl) ?_
          refine lv_sipush (v := 1000) hx hb dX5_addBridge_31 (by decide) ?_
          refine lv_icmp_le (tgt := 40) hx hb dX5_addBridge_34 (by decide) (fun c_34 => ?_) (fun c_34 => ?_)
          · skip
            refine lv_aload_n hx hb dX5_addBridge_40 rfl (lv_at hl 0 rfl) ?_
            refine gX5_57 X hJ (k := k) (w := w) (by omega) upW_1 dX5_addBridge_41 ?_
            refine lv_bipush (v := 12) hx hb dX5_addBridge_44 (by decide) ?_
            refine lv_icmp_lt (tgt := 52) hx hb dX5_addBridge_46 (by decide) (fun c_46 => ?_) (fun c_46 => ?_)
            · skip
              have hq9 : nn (w 5) < 12 := nn_lt_lit (n := 12) c_46 hcn.2.1 (by omega)
              refine lv_aload_n hx hb dX5_addBridge_52 rfl (lv_at hl 0 rfl) ?_
              refine gX5_17 X hJ (k := k) (w := w) (by omega) upW_1 dX5_addBridge_53 ?_
              refine lv_aload_n hx hb dX5_addBridge_56 rfl (lv_at hl 0 rfl) ?_
              refine gX5_57 X hJ (k := k) (w := w) (by omega) upW_1 dX5_addBridge_57 ?_
              refine cvt (y := nI (nn (w 5))) (hcn.2.1.eq) ?_
              refine ld_brs X hJ (k := k) (by omega) (j := nn (w 5)) (rfl) (by omega) dX5_addBridge_60 ?_
              refine lv_astore (lv' := [(4, .ref (B + (wo k + (5 + (nn (w 5)))))), (0, .ref (B + wo k)), (1, .int x), (2, .int y), (3, .int z)]) hx hb dX5_addBridge_61 hl (by decide) rfl (fun ls hl => ?_)
              refine lv_aload hx hb dX5_addBridge_63 (lv_at hl 0 rfl) ?_
              refine lv_iload_n hx hb dX5_addBridge_65 rfl (lv_at hl 2 rfl) ?_
              refine pX5_82 X hJ (k := k) (by omega) (i := nn (w 5)) (by omega) dX5_addBridge_66 (fun H locs hJ => ?_)
              refine lv_aload hx hb dX5_addBridge_69 (lv_at hl 0 rfl) ?_
              refine lv_iload_n hx hb dX5_addBridge_71 rfl (lv_at hl 3 rfl) ?_
              refine pX5_85 X hJ (k := k) (by omega) (i := nn (w 5)) (by omega) dX5_addBridge_72 (fun H locs hJ => ?_)
              refine lv_aload hx hb dX5_addBridge_75 (lv_at hl 0 rfl) ?_
              refine lv_iload_n hx hb dX5_addBridge_77 rfl (lv_at hl 4 rfl) ?_
              refine pX5_88 X hJ (k := k) (by omega) (i := nn (w 5)) (by omega) dX5_addBridge_78 (fun H locs hJ => ?_)
              refine lv_aload_n hx hb dX5_addBridge_81 rfl (lv_at hl 1 rfl) ?_
              refine lv_aload hx hb dX5_addBridge_82 (lv_at hl 0 rfl) ?_
              refine kX5_91 X hJ (mX5_drawRiddle l E B _ k (nn (w 5)) (upd (upd (upd w (20 + 7 * (nn (w 5))) x) (20 + 7 * (nn (w 5)) + 1) y) (20 + 7 * (nn (w 5)) + 2) z) (by omega) (by omega)) rfl (lt_W0 (by omega)) (at_W (by omega) rfl) hl.1 ⟨Nat.le_of_ble_eq_true rfl, Nat.le_of_ble_eq_true rfl⟩ ⟨Nat.le_refl _, Nat.le_refl _⟩ (rest := []) rfl (Nat.le_of_ble_eq_true rfl) dX5_addBridge_84 (fun H locs hJ => ?_)
              refine lv_aload_n hx hb dX5_addBridge_87 rfl (lv_at hl 1 rfl) ?_
              refine lv_dup hx hb dX5_addBridge_88 rfl ?_
              refine gX5_57 X hJ (k := k) (w := (sX5_drawRiddle (upd (upd (upd w (20 + 7 * (nn (w 5))) x) (20 + 7 * (nn (w 5)) + 1) y) (20 + 7 * (nn (w 5)) + 2) z) (nn (w 5)))) (by omega) upW_1 dX5_addBridge_89 ?_
              refine lv_iconst (v := 1) hx hb dX5_addBridge_92 (by decide) ?_
              refine lv_iadd hx hb dX5_addBridge_93 ?_
              refine pX5_57 X hJ (k := k) (by omega) dX5_addBridge_94 (fun H locs hJ => ?_)
              refine lv_aload hx hb dX5_addBridge_97 (lv_at hl 0 rfl) ?_
              refine gX5_94 X hJ (k := k) (w := upd (sX5_drawRiddle (upd (upd (upd w (20 + 7 * (nn (w 5))) x) (20 + 7 * (nn (w 5)) + 1) y) (20 + 7 * (nn (w 5)) + 2) z) (nn (w 5))) (5) (((sX5_drawRiddle (upd (upd (upd w (20 + 7 * (nn (w 5))) x) (20 + 7 * (nn (w 5)) + 1) y) (20 + 7 * (nn (w 5)) + 2) z) (nn (w 5))) 5) + 1)) (by omega) (i := nn (w 5)) (by omega)  upW_1 dX5_addBridge_99 ?_
              have hs : sX5_addBridge w x y z = (nI (nn (w 5)), upd (sX5_drawRiddle (upd (upd (upd w (20 + 7 * (nn (w 5))) x) (20 + 7 * (nn (w 5)) + 1) y) (20 + 7 * (nn (w 5)) + 2) z) (nn (w 5))) (5) (((sX5_drawRiddle (upd (upd (upd w (20 + 7 * (nn (w 5))) x) (20 + 7 * (nn (w 5)) + 1) y) (20 + 7 * (nn (w 5)) + 2) z) (nn (w 5))) 5) + 1)) := by unfold sX5_addBridge; rw [if_neg c_6, if_neg c_15, if_neg c_22, if_neg c_27, if_pos c_34, if_pos c_46]
              exact fin (by rw [hs]; dsimp only; exact hJ) (by rw [hs]) dX5_addBridge_102
            · skip
              refine lv_bipush (v := (-4)) hx hb dX5_addBridge_49 (by decide) ?_
              have hs : sX5_addBridge w x y z = ((-4), w) := by unfold sX5_addBridge; rw [if_neg c_6, if_neg c_15, if_neg c_22, if_neg c_27, if_pos c_34, if_neg c_46]
              exact fin (by rw [hs]; dsimp only; exact hJ) (by rw [hs]) dX5_addBridge_51
          · skip
            refine lv_bipush (v := (-2)) hx hb dX5_addBridge_37 (by decide) ?_
            have hs : sX5_addBridge w x y z = ((-2), w) := by unfold sX5_addBridge; rw [if_neg c_6, if_neg c_15, if_neg c_22, if_neg c_27, if_neg c_34]
            exact fin (by rw [hs]; dsimp only; exact hJ) (by rw [hs]) dX5_addBridge_39
    · skip
      refine lv_iconst (v := (-1)) hx hb dX5_addBridge_18 (by decide) ?_
      have hs : sX5_addBridge w x y z = ((-1), w) := by unfold sX5_addBridge; rw [if_neg c_6, if_pos c_15]
      exact fin (by rw [hs]; dsimp only; exact hJ) (by rw [hs]) dX5_addBridge_19

def sX5_addCart (w : Row) (x : Int32) (y : Int32) : Int32 × Row := if sX6_isBelow x 8 = 0 then (((-1), w)) else (if y < 0 then (((-2), w)) else (if y ≤ 9999 then (if w 6 < 8 then ((nI (nn (w 6)), upd (upd (upd (upd w (104 + 8 * (nn (w 6))) x) (104 + 8 * (nn (w 6)) + 1) y) (8) (((upd (upd w (104 + 8 * (nn (w 6))) x) (104 + 8 * (nn (w 6)) + 1) y) 8) + y)) (6) (((upd (upd (upd w (104 + 8 * (nn (w 6))) x) (104 + 8 * (nn (w 6)) + 1) y) (8) (((upd (upd w (104 + 8 * (nn (w 6))) x) (104 + 8 * (nn (w 6)) + 1) y) 8) + y)) 6) + 1))) else (((-4), w))) else (((-2), w))))
set_option maxHeartbeats 4000000 in
set_option maxRecDepth 100000 in
theorem mX5_addCart (l : Launch) (E : EE) (B : Nat) (g : GS) (k : Nat) (x : Int32) (y : Int32) (w : Row) (hk : k < 11)  (hcn : Cn w) : CG l yX5_addCart cX5_addCart 4 (some .int) 1 21 E B [.ref (B + wo k), .int x, .int y] (upW g k w) (some (.int (sX5_addCart w x y).1)) (upW g k ((sX5_addCart w x y).2)) := by
  refine mkI (own := RX5) (ty := .int) rfl (by decide) rfl (rfl) (Nat.le_of_ble_eq_true rfl) (fun P_ e_ s_ m_ a_ below meth cd Q X fin ls hl hJ => ?_)
  have hx := X.1
  have hb := X.2.1
  have hl : lv_has ls 4 [(0, .ref (B + wo k)), (1, .int x), (2, .int y)] := hl
  refine lv_iload_n hx hb dX5_addCart_0 rfl (lv_at hl 1 rfl) ?_
  refine lv_bipush (v := 8) hx hb dX5_addCart_1 (by decide) ?_
  refine kX5_72 X hJ (mX6_isBelow l E B _ x 8) rfl hl.1 ⟨Nat.le_of_ble_eq_true rfl, Nat.le_of_ble_eq_true rfl⟩ ⟨Nat.le_refl _, Nat.le_refl _⟩ (rest := []) rfl (Nat.le_of_ble_eq_true rfl) dX5_addCart_3 (fun H locs hJ => ?_)
  refine lv_if_ne (tgt := 11) hx hb dX5_addCart_6 (by decide) (fun c_6 => ?_) (fun c_6 => ?_)
  · skip
    refine lv_iload_n hx hb dX5_addCart_11 rfl (lv_at hl 2 rfl) ?_
    refine lv_if_lt (tgt := 22) hx hb dX5_addCart_12 (by decide) (fun c_12 => ?_) (fun c_12 => ?_)
    · skip
      refine lv_bipush (v := (-2)) hx hb dX5_addCart_22 (by decide) ?_
      have hs : sX5_addCart w x y = ((-2), w) := by unfold sX5_addCart; rw [if_neg c_6, if_pos c_12]
      exact fin (by rw [hs]; dsimp only; exact hJ) (by rw [hs]) dX5_addCart_24
    · skip
      refine lv_iload_n hx hb dX5_addCart_15 rfl (lv_at hl 2 rfl) ?_
      refine lv_sipush (v := 9999) hx hb dX5_addCart_16 (by decide) ?_
      refine lv_icmp_le (tgt := 25) hx hb dX5_addCart_19 (by decide) (fun c_19 => ?_) (fun c_19 => ?_)
      · skip
        refine lv_aload_n hx hb dX5_addCart_25 rfl (lv_at hl 0 rfl) ?_
        refine gX5_60 X hJ (k := k) (w := w) (by omega) upW_1 dX5_addCart_26 ?_
        refine lv_bipush (v := 8) hx hb dX5_addCart_29 (by decide) ?_
        refine lv_icmp_lt (tgt := 37) hx hb dX5_addCart_31 (by decide) (fun c_31 => ?_) (fun c_31 => ?_)
        · skip
          have hq9 : nn (w 6) < 8 := nn_lt_lit (n := 8) c_31 hcn.2.2 (by omega)
          refine lv_aload_n hx hb dX5_addCart_37 rfl (lv_at hl 0 rfl) ?_
          refine gX5_23 X hJ (k := k) (w := w) (by omega) upW_1 dX5_addCart_38 ?_
          refine lv_aload_n hx hb dX5_addCart_41 rfl (lv_at hl 0 rfl) ?_
          refine gX5_60 X hJ (k := k) (w := w) (by omega) upW_1 dX5_addCart_42 ?_
          refine cvt (y := nI (nn (w 6))) (hcn.2.2.eq) ?_
          refine ld_cts X hJ (k := k) (by omega) (j := nn (w 6)) (rfl) (by omega) dX5_addCart_45 ?_
          refine lv_astore_n (lv' := [(3, .ref (B + (wo k + (17 + 3 * (nn (w 6)))))), (0, .ref (B + wo k)), (1, .int x), (2, .int y)]) hx hb dX5_addCart_46 rfl hl (by decide) rfl (fun ls hl => ?_)
          refine lv_aload_n hx hb dX5_addCart_47 rfl (lv_at hl 0 rfl) ?_
          refine lv_iload_n hx hb dX5_addCart_48 rfl (lv_at hl 2 rfl) ?_
          refine pX5_97 X hJ (k := k) (by omega) (i := nn (w 6)) (by omega) dX5_addCart_49 (fun H locs hJ => ?_)
          refine lv_aload_n hx hb dX5_addCart_52 rfl (lv_at hl 0 rfl) ?_
          refine lv_iload_n hx hb dX5_addCart_53 rfl (lv_at hl 3 rfl) ?_
          refine pX5_98 X hJ (k := k) (by omega) (i := nn (w 6)) (by omega) dX5_addCart_54 (fun H locs hJ => ?_)
          refine lv_aload_n hx hb dX5_addCart_57 rfl (lv_at hl 1 rfl) ?_
          refine lv_dup hx hb dX5_addCart_58 rfl ?_
          refine gX5_66 X hJ (k := k) (w := upd (upd w (104 + 8 * (nn (w 6))) x) (104 + 8 * (nn (w 6)) + 1) y) (by omega) upW_1 dX5_addCart_59 ?_
          refine lv_iload_n hx hb dX5_addCart_62 rfl (lv_at hl 3 rfl) ?_
          refine lv_iadd hx hb dX5_addCart_63 ?_
          refine pX5_66 X hJ (k := k) (by omega) dX5_addCart_64 (fun H locs hJ => ?_)
          refine lv_aload_n hx hb dX5_addCart_67 rfl (lv_at hl 1 rfl) ?_
          refine lv_dup hx hb dX5_addCart_68 rfl ?_
          refine gX5_60 X hJ (k := k) (w := upd (upd (upd w (104 + 8 * (nn (w 6))) x) (104 + 8 * (nn (w 6)) + 1) y) (8) (((upd (upd w (104 + 8 * (nn (w 6))) x) (104 + 8 * (nn (w 6)) + 1) y) 8) + y)) (by omega) upW_1 dX5_addCart_69 ?_
          refine lv_iconst (v := 1) hx hb dX5_addCart_72 (by decide) ?_
          refine lv_iadd hx hb dX5_addCart_73 ?_
          refine pX5_60 X hJ (k := k) (by omega) dX5_addCart_74 (fun H locs hJ => ?_)
          refine lv_aload_n hx hb dX5_addCart_77 rfl (lv_at hl 0 rfl) ?_
          refine gX5_101 X hJ (k := k) (w := upd (upd (upd (upd w (104 + 8 * (nn (w 6))) x) (104 + 8 * (nn (w 6)) + 1) y) (8) (((upd (upd w (104 + 8 * (nn (w 6))) x) (104 + 8 * (nn (w 6)) + 1) y) 8) + y)) (6) (((upd (upd (upd w (104 + 8 * (nn (w 6))) x) (104 + 8 * (nn (w 6)) + 1) y) (8) (((upd (upd w (104 + 8 * (nn (w 6))) x) (104 + 8 * (nn (w 6)) + 1) y) 8) + y)) 6) + 1)) (by omega) (i := nn (w 6)) (by omega)  upW_1 dX5_addCart_78 ?_
          have hs : sX5_addCart w x y = (nI (nn (w 6)), upd (upd (upd (upd w (104 + 8 * (nn (w 6))) x) (104 + 8 * (nn (w 6)) + 1) y) (8) (((upd (upd w (104 + 8 * (nn (w 6))) x) (104 + 8 * (nn (w 6)) + 1) y) 8) + y)) (6) (((upd (upd (upd w (104 + 8 * (nn (w 6))) x) (104 + 8 * (nn (w 6)) + 1) y) (8) (((upd (upd w (104 + 8 * (nn (w 6))) x) (104 + 8 * (nn (w 6)) + 1) y) 8) + y)) 6) + 1)) := by unfold sX5_addCart; rw [if_neg c_6, if_neg c_12, if_pos c_19, if_pos c_31]
          exact fin (by rw [hs]; dsimp only; exact hJ) (by rw [hs]) dX5_addCart_81
        · skip
          refine lv_bipush (v := (-4)) hx hb dX5_addCart_34 (by decide) ?_
          have hs : sX5_addCart w x y = ((-4), w) := by unfold sX5_addCart; rw [if_neg c_6, if_neg c_12, if_pos c_19, if_neg c_31]
          exact fin (by rw [hs]; dsimp only; exact hJ) (by rw [hs]) dX5_addCart_36
      · skip
        refine lv_bipush (v := (-2)) hx hb dX5_addCart_22 (by decide) ?_
        have hs : sX5_addCart w x y = ((-2), w) := by unfold sX5_addCart; rw [if_neg c_6, if_neg c_12, if_neg c_19]
        exact fin (by rw [hs]; dsimp only; exact hJ) (by rw [hs]) dX5_addCart_24
  · skip
    refine lv_iconst (v := (-1)) hx hb dX5_addCart_9 (by decide) ?_
    have hs : sX5_addCart w x y = ((-1), w) := by unfold sX5_addCart; rw [if_pos c_6]
    exact fin (by rw [hs]; dsimp only; exact hJ) (by rw [hs]) dX5_addCart_10

def sX5_comeToWait (w : Row) (x : Int32) (y : Int32) (z : Int32) : Int32 × Row := oe (sX5_cartOf w x) (oe (sX5_bridgeOf w y) (((-1), w)) (fun q2 => ((-1), w))) (fun q1 => oe (sX5_bridgeOf w y) (((-1), w)) (fun q3 => if sX6_isBelow z (w (20 + 7 * q3 + 2)) = 0 then (((-2), w)) else (if sX1_isWaiting w q1 = 0 then (if sX0_isAt w q3 (w (104 + 8 * q1)) = 0 then (((-5), w)) else (if w 10 < 8 then (((upd (upd (upd (upd (upd w (12 + (nn (w 10))) x) (10) (((upd w (12 + (nn (w 10))) x) 10) + 1)) (104 + 8 * q1 + 2) y) (104 + 8 * q1 + 3) z) (360 + q3) (((upd (upd (upd (upd w (12 + (nn (w 10))) x) (10) (((upd w (12 + (nn (w 10))) x) 10) + 1)) (104 + 8 * q1 + 2) y) (104 + 8 * q1 + 3) z) (360 + q3)) + 1)) (360 + q3), upd (upd (upd (upd (upd w (12 + (nn (w 10))) x) (10) (((upd w (12 + (nn (w 10))) x) 10) + 1)) (104 + 8 * q1 + 2) y) (104 + 8 * q1 + 3) z) (360 + q3) (((upd (upd (upd (upd w (12 + (nn (w 10))) x) (10) (((upd w (12 + (nn (w 10))) x) 10) + 1)) (104 + 8 * q1 + 2) y) (104 + 8 * q1 + 3) z) (360 + q3)) + 1))) else (((-5), w)))) else (((-5), w)))))
set_option maxHeartbeats 4000000 in
set_option maxRecDepth 100000 in
theorem mX5_comeToWait (l : Launch) (E : EE) (B : Nat) (g : GS) (k : Nat) (x : Int32) (y : Int32) (z : Int32) (w : Row) (hk : k < 11)  (hcn : Cn w) : CG l yX5_comeToWait cX5_comeToWait 6 (some .int) 2 42 E B [.ref (B + wo k), .int x, .int y, .int z] (upW g k w) (some (.int (sX5_comeToWait w x y z).1)) (upW g k ((sX5_comeToWait w x y z).2)) := by
  refine mkI (own := RX5) (ty := .int) rfl (by decide) rfl (rfl) (Nat.le_of_ble_eq_true rfl) (fun P_ e_ s_ m_ a_ below meth cd Q X fin ls hl hJ => ?_)
  have hx := X.1
  have hb := X.2.1
  have hl : lv_has ls 6 [(0, .ref (B + wo k)), (1, .int x), (2, .int y), (3, .int z)] := hl
  refine lv_aload_n hx hb dX5_comeToWait_0 rfl (lv_at hl 0 rfl) ?_
  refine lv_iload_n hx hb dX5_comeToWait_1 rfl (lv_at hl 1 rfl) ?_
  refine kX5_102 X hJ (mX5_cartOf l E B _ k x w (by omega) upW_1 (hcn)) rfl (lt_W0 (by omega)) (at_W (by omega) rfl) hl.1 ⟨Nat.le_of_ble_eq_true rfl, Nat.le_of_ble_eq_true rfl⟩ ⟨Nat.le_refl _, Nat.le_refl _⟩ (rest := []) rfl (Nat.le_of_ble_eq_true rfl) dX5_comeToWait_2 (fun H locs hJ => ?_)
  rcases o_2 : sX5_cartOf w x with _ | q1
  · skip
    refine lv_astoreN (lv' := [(4, .null), (0, .ref (B + wo k)), (1, .int x), (2, .int y), (3, .int z)]) hx hb dX5_comeToWait_5 hl (by decide) rfl (fun ls hl => ?_)
    refine lv_aload_n hx hb dX5_comeToWait_7 rfl (lv_at hl 1 rfl) ?_
    refine lv_iload_n hx hb dX5_comeToWait_8 rfl (lv_at hl 3 rfl) ?_
    refine kX5_106 X hJ (mX5_bridgeOf l E B _ k y w (by omega) upW_1 (hcn)) rfl (lt_W0 (by omega)) (at_W (by omega) rfl) hl.1 ⟨Nat.le_of_ble_eq_true rfl, Nat.le_of_ble_eq_true rfl⟩ ⟨Nat.le_refl _, Nat.le_refl _⟩ (rest := []) rfl (Nat.le_of_ble_eq_true rfl) dX5_comeToWait_9 (fun H locs hJ => ?_)
    rcases o_9 : sX5_bridgeOf w y with _ | q2
    · skip
      refine lv_astoreN (lv' := [(5, .null), (4, .null), (0, .ref (B + wo k)), (1, .int x), (2, .int y), (3, .int z)]) hx hb dX5_comeToWait_12 hl (by decide) rfl (fun ls hl => ?_)
      refine lv_aloadN hx hb dX5_comeToWait_14 (lv_at hl 1 rfl) ?_
      refine lv_ifnullN (tgt := 24) hx hb dX5_comeToWait_16 (by decide) ?_
      refine lv_iconst (v := (-1)) hx hb dX5_comeToWait_24 (by decide) ?_
      have hs : sX5_comeToWait w x y z = ((-1), w) := by unfold sX5_comeToWait; rw [oe_none o_2, oe_none o_9]
      exact fin (by rw [hs]; dsimp only; exact hJ) (by rw [hs]) dX5_comeToWait_25
    · skip
      obtain ⟨hq2, xq2, yq2⟩ := bridgeOf_some (hcn) o_9
      refine lv_astore (lv' := [(5, .ref (B + (wo k + (5 + q2)))), (4, .null), (0, .ref (B + wo k)), (1, .int x), (2, .int y), (3, .int z)]) hx hb dX5_comeToWait_12 hl (by decide) rfl (fun ls hl => ?_)
      refine lv_aloadN hx hb dX5_comeToWait_14 (lv_at hl 1 rfl) ?_
      refine lv_ifnullN (tgt := 24) hx hb dX5_comeToWait_16 (by decide) ?_
      refine lv_iconst (v := (-1)) hx hb dX5_comeToWait_24 (by decide) ?_
      have hs : sX5_comeToWait w x y z = ((-1), w) := by unfold sX5_comeToWait; rw [oe_none o_2, oe_some o_9]
      exact fin (by rw [hs]; dsimp only; exact hJ) (by rw [hs]) dX5_comeToWait_25
  · skip
    obtain ⟨hq1, xq1, yq1⟩ := cartOf_some (hcn) o_2
    refine lv_astore (lv' := [(4, .ref (B + (wo k + (17 + 3 * q1)))), (0, .ref (B + wo k)), (1, .int x), (2, .int y), (3, .int z)]) hx hb dX5_comeToWait_5 hl (by decide) rfl (fun ls hl => ?_)
    refine lv_aload_n hx hb dX5_comeToWait_7 rfl (lv_at hl 1 rfl) ?_
    refine lv_iload_n hx hb dX5_comeToWait_8 rfl (lv_at hl 3 rfl) ?_
    refine kX5_106 X hJ (mX5_bridgeOf l E B _ k y w (by omega) upW_1 (hcn)) rfl (lt_W0 (by omega)) (at_W (by omega) rfl) hl.1 ⟨Nat.le_of_ble_eq_true rfl, Nat.le_of_ble_eq_true rfl⟩ ⟨Nat.le_refl _, Nat.le_refl _⟩ (rest := []) rfl (Nat.le_of_ble_eq_true rfl) dX5_comeToWait_9 (fun H locs hJ => ?_)
    rcases o_9 : sX5_bridgeOf w y with _ | q3
    · skip
      refine lv_astoreN (lv' := [(5, .null), (4, .ref (B + (wo k + (17 + 3 * q1)))), (0, .ref (B + wo k)), (1, .int x), (2, .int y), (3, .int z)]) hx hb dX5_comeToWait_12 hl (by decide) rfl (fun ls hl => ?_)
      refine lv_aload hx hb dX5_comeToWait_14 (lv_at hl 1 rfl) ?_
      refine lv_ifnull hx hb dX5_comeToWait_16 ?_
      refine lv_aloadN hx hb dX5_comeToWait_19 (lv_at hl 0 rfl) ?_
      refine lv_ifnonnullN hx hb dX5_comeToWait_21 ?_
      refine lv_iconst (v := (-1)) hx hb dX5_comeToWait_24 (by decide) ?_
      have hs : sX5_comeToWait w x y z = ((-1), w) := by unfold sX5_comeToWait; rw [oe_some o_2, oe_none o_9]
      exact fin (by rw [hs]; dsimp only; exact hJ) (by rw [hs]) dX5_comeToWait_25
    · skip
      obtain ⟨hq3, xq3, yq3⟩ := bridgeOf_some (hcn) o_9
      refine lv_astore (lv' := [(5, .ref (B + (wo k + (5 + q3)))), (4, .ref (B + (wo k + (17 + 3 * q1)))), (0, .ref (B + wo k)), (1, .int x), (2, .int y), (3, .int z)]) hx hb dX5_comeToWait_12 hl (by decide) rfl (fun ls hl => ?_)
      refine lv_aload hx hb dX5_comeToWait_14 (lv_at hl 1 rfl) ?_
      refine lv_ifnull hx hb dX5_comeToWait_16 ?_
      refine lv_aload hx hb dX5_comeToWait_19 (lv_at hl 0 rfl) ?_
      refine lv_ifnonnull (tgt := 26) hx hb dX5_comeToWait_21 (by decide) ?_
      refine lv_iload_n hx hb dX5_comeToWait_26 rfl (lv_at hl 5 rfl) ?_
      refine lv_aload hx hb dX5_comeToWait_27 (lv_at hl 0 rfl) ?_
      refine gX5_88 X hJ (k := k) (w := w) (by omega) (i := q3) (by omega)  upW_1 dX5_comeToWait_29 ?_
      refine kX5_72 X hJ (mX6_isBelow l E B _ z (w (20 + 7 * q3 + 2))) rfl hl.1 ⟨Nat.le_of_ble_eq_true rfl, Nat.le_of_ble_eq_true rfl⟩ ⟨Nat.le_refl _, Nat.le_refl _⟩ (rest := []) rfl (Nat.le_of_ble_eq_true rfl) dX5_comeToWait_32 (fun H locs hJ => ?_)
      refine lv_if_ne (tgt := 41) hx hb dX5_comeToWait_35 (by decide) (fun c_35 => ?_) (fun c_35 => ?_)
      · skip
        refine lv_aload hx hb dX5_comeToWait_41 (lv_at hl 1 rfl) ?_
        refine kX5_110 X hJ (mX1_isWaiting l E B _ k q1 w (by omega) (by omega) upW_1) rfl (lt_W (by omega) (by omega)) (at_C (by omega) (by omega) upW_1) hl.1 ⟨Nat.le_of_ble_eq_true rfl, Nat.le_of_ble_eq_true rfl⟩ ⟨Nat.le_refl _, Nat.le_refl _⟩ (rest := []) rfl (Nat.le_of_ble_eq_true rfl) dX5_comeToWait_43 (fun H locs hJ => ?_)
        refine lv_if_ne (tgt := 71) hx hb dX5_comeToWait_46 (by decide) (fun c_46 => ?_) (fun c_46 => ?_)
        · skip
          refine lv_bipush (v := (-5)) hx hb dX5_comeToWait_71 (by decide) ?_
          have hs : sX5_comeToWait w x y z = ((-5), w) := by unfold sX5_comeToWait; rw [oe_some o_2, oe_some o_9, if_neg c_35, if_neg c_46]
          exact fin (by rw [hs]; dsimp only; exact hJ) (by rw [hs]) dX5_comeToWait_73
        · skip
          refine lv_aload hx hb dX5_comeToWait_49 (lv_at hl 0 rfl) ?_
          refine lv_aload hx hb dX5_comeToWait_51 (lv_at hl 1 rfl) ?_
          refine gX5_97 X hJ (k := k) (w := w) (by omega) (i := q1) (by omega)  upW_1 dX5_comeToWait_53 ?_
          refine kX5_114 X hJ (mX0_isAt l E B _ k q3 (w (104 + 8 * q1)) w (by omega) (by omega) upW_1) rfl (lt_W (by omega) (by omega)) (at_B (by omega) (by omega) upW_1) hl.1 ⟨Nat.le_of_ble_eq_true rfl, Nat.le_of_ble_eq_true rfl⟩ ⟨Nat.le_refl _, Nat.le_refl _⟩ (rest := []) rfl (Nat.le_of_ble_eq_true rfl) dX5_comeToWait_56 (fun H locs hJ => ?_)
          refine lv_if_eq (tgt := 71) hx hb dX5_comeToWait_59 (by decide) (fun c_59 => ?_) (fun c_59 => ?_)
          · skip
            refine lv_bipush (v := (-5)) hx hb dX5_comeToWait_71 (by decide) ?_
            have hs : sX5_comeToWait w x y z = ((-5), w) := by unfold sX5_comeToWait; rw [oe_some o_2, oe_some o_9, if_neg c_35, if_pos c_46, if_pos c_59]
            exact fin (by rw [hs]; dsimp only; exact hJ) (by rw [hs]) dX5_comeToWait_73
          · skip
            refine lv_aload_n hx hb dX5_comeToWait_62 rfl (lv_at hl 2 rfl) ?_
            refine gX5_54 X hJ (k := k) (w := w) (by omega) upW_1 dX5_comeToWait_63 ?_
            refine lv_bipush (v := 8) hx hb dX5_comeToWait_66 (by decide) ?_
            refine lv_icmp_lt (tgt := 74) hx hb dX5_comeToWait_68 (by decide) (fun c_68 => ?_) (fun c_68 => ?_)
            · skip
              have hq9 : nn (w 10) < 8 := nn_lt_lit (n := 8) c_68 hcn.1 (by omega)
              refine lv_aload_n hx hb dX5_comeToWait_74 rfl (lv_at hl 2 rfl) ?_
              refine gX5_27 X hJ (k := k) (w := w) (by omega) upW_1 dX5_comeToWait_75 ?_
              refine lv_aload_n hx hb dX5_comeToWait_78 rfl (lv_at hl 2 rfl) ?_
              refine gX5_54 X hJ (k := k) (w := w) (by omega) upW_1 dX5_comeToWait_79 ?_
              refine cvt (y := nI (nn (w 10))) (hcn.1.eq) ?_
              refine lv_iload_n hx hb dX5_comeToWait_82 rfl (lv_at hl 3 rfl) ?_
              refine st_line X hJ (k := k) (by omega) (j := nn (w 10)) (rfl) (by omega) dX5_comeToWait_83 (fun H locs hJ => ?_)
              refine lv_aload_n hx hb dX5_comeToWait_84 rfl (lv_at hl 2 rfl) ?_
              refine lv_dup hx hb dX5_comeToWait_85 rfl ?_
              refine gX5_54 X hJ (k := k) (w := upd w (12 + (nn (w 10))) x) (by omega) upW_1 dX5_comeToWait_86 ?_
              refine lv_iconst (v := 1) hx hb dX5_comeToWait_89 (by decide) ?_
              refine lv_iadd hx hb dX5_comeToWait_90 ?_
              refine pX5_54 X hJ (k := k) (by omega) dX5_comeToWait_91 (fun H locs hJ => ?_)
              refine lv_aload hx hb dX5_comeToWait_94 (lv_at hl 1 rfl) ?_
              refine lv_iload_n hx hb dX5_comeToWait_96 rfl (lv_at hl 4 rfl) ?_
              refine pX5_118 X hJ (k := k) (by omega) (i := q1) (by omega) dX5_comeToWait_97 (fun H locs hJ => ?_)
              refine lv_aload hx hb dX5_comeToWait_100 (lv_at hl 1 rfl) ?_
              refine lv_iload_n hx hb dX5_comeToWait_102 rfl (lv_at hl 5 rfl) ?_
              refine pX5_121 X hJ (k := k) (by omega) (i := q1) (by omega) dX5_comeToWait_103 (fun H locs hJ => ?_)
              refine lv_aload hx hb dX5_comeToWait_106 (lv_at hl 0 rfl) ?_
              refine lv_dup hx hb dX5_comeToWait_108 rfl ?_
              refine gX5_124 X hJ (k := k) (w := upd (upd (upd (upd w (12 + (nn (w 10))) x) (10) (((upd w (12 + (nn (w 10))) x) 10) + 1)) (104 + 8 * q1 + 2) y) (104 + 8 * q1 + 3) z) (by omega) (i := q3) (by omega)  upW_1 dX5_comeToWait_109 ?_
              refine lv_iconst (v := 1) hx hb dX5_comeToWait_112 (by decide) ?_
              refine lv_iadd hx hb dX5_comeToWait_113 ?_
              refine pX5_124 X hJ (k := k) (by omega) (i := q3) (by omega) dX5_comeToWait_114 (fun H locs hJ => ?_)
              refine lv_aload hx hb dX5_comeToWait_117 (lv_at hl 0 rfl) ?_
              refine gX5_124 X hJ (k := k) (w := upd (upd (upd (upd (upd w (12 + (nn (w 10))) x) (10) (((upd w (12 + (nn (w 10))) x) 10) + 1)) (104 + 8 * q1 + 2) y) (104 + 8 * q1 + 3) z) (360 + q3) (((upd (upd (upd (upd w (12 + (nn (w 10))) x) (10) (((upd w (12 + (nn (w 10))) x) 10) + 1)) (104 + 8 * q1 + 2) y) (104 + 8 * q1 + 3) z) (360 + q3)) + 1)) (by omega) (i := q3) (by omega)  upW_1 dX5_comeToWait_119 ?_
              have hs : sX5_comeToWait w x y z = ((upd (upd (upd (upd (upd w (12 + (nn (w 10))) x) (10) (((upd w (12 + (nn (w 10))) x) 10) + 1)) (104 + 8 * q1 + 2) y) (104 + 8 * q1 + 3) z) (360 + q3) (((upd (upd (upd (upd w (12 + (nn (w 10))) x) (10) (((upd w (12 + (nn (w 10))) x) 10) + 1)) (104 + 8 * q1 + 2) y) (104 + 8 * q1 + 3) z) (360 + q3)) + 1)) (360 + q3), upd (upd (upd (upd (upd w (12 + (nn (w 10))) x) (10) (((upd w (12 + (nn (w 10))) x) 10) + 1)) (104 + 8 * q1 + 2) y) (104 + 8 * q1 + 3) z) (360 + q3) (((upd (upd (upd (upd w (12 + (nn (w 10))) x) (10) (((upd w (12 + (nn (w 10))) x) 10) + 1)) (104 + 8 * q1 + 2) y) (104 + 8 * q1 + 3) z) (360 + q3)) + 1)) := by unfold sX5_comeToWait; rw [oe_some o_2, oe_some o_9, if_neg c_35, if_pos c_46, if_neg c_59, if_pos c_68]
              exact fin (by rw [hs]; dsimp only; exact hJ) (by rw [hs]) dX5_comeToWait_122
            · skip
              refine lv_bipush (v := (-5)) hx hb dX5_comeToWait_71 (by decide) ?_
              have hs : sX5_comeToWait w x y z = ((-5), w) := by unfold sX5_comeToWait; rw [oe_some o_2, oe_some o_9, if_neg c_35, if_pos c_46, if_neg c_59, if_neg c_68]
              exact fin (by rw [hs]; dsimp only; exact hJ) (by rw [hs]) dX5_comeToWait_73
      · skip
        refine lv_bipush (v := (-2)) hx hb dX5_comeToWait_38 (by decide) ?_
        have hs : sX5_comeToWait w x y z = ((-2), w) := by unfold sX5_comeToWait; rw [oe_some o_2, oe_some o_9, if_pos c_35]
        exact fin (by rw [hs]; dsimp only; exact hJ) (by rw [hs]) dX5_comeToWait_40

def sX5_stopWaiting (w : Row) (x : Int32) : Int32 × Row := oe (sX5_cartOf w x) (((-1), w)) (fun q1 => oe (sX5_bridgeOf w (w (104 + 8 * q1 + 2))) (((-5), w)) (fun q2 => (nI q2, (sX5_release w q1 q2))))
set_option maxHeartbeats 4000000 in
set_option maxRecDepth 100000 in
theorem mX5_stopWaiting (l : Launch) (E : EE) (B : Nat) (g : GS) (k : Nat) (x : Int32) (w : Row) (hk : k < 11)  (hcn : Cn w) : CG l yX5_stopWaiting cX5_stopWaiting 4 (some .int) 2 42 E B [.ref (B + wo k), .int x] (upW g k w) (some (.int (sX5_stopWaiting w x).1)) (upW g k ((sX5_stopWaiting w x).2)) := by
  refine mkI (own := RX5) (ty := .int) rfl (by decide) rfl (rfl) (Nat.le_of_ble_eq_true rfl) (fun P_ e_ s_ m_ a_ below meth cd Q X fin ls hl hJ => ?_)
  have hx := X.1
  have hb := X.2.1
  have hl : lv_has ls 4 [(0, .ref (B + wo k)), (1, .int x)] := hl
  refine lv_aload_n hx hb dX5_stopWaiting_0 rfl (lv_at hl 0 rfl) ?_
  refine lv_iload_n hx hb dX5_stopWaiting_1 rfl (lv_at hl 1 rfl) ?_
  refine kX5_102 X hJ (mX5_cartOf l E B _ k x w (by omega) upW_1 (hcn)) rfl (lt_W0 (by omega)) (at_W (by omega) rfl) hl.1 ⟨Nat.le_of_ble_eq_true rfl, Nat.le_of_ble_eq_true rfl⟩ ⟨Nat.le_refl _, Nat.le_refl _⟩ (rest := []) rfl (Nat.le_of_ble_eq_true rfl) dX5_stopWaiting_2 (fun H locs hJ => ?_)
  rcases o_2 : sX5_cartOf w x with _ | q1
  · skip
    refine lv_astore_nN (lv' := [(2, .null), (0, .ref (B + wo k)), (1, .int x)]) hx hb dX5_stopWaiting_5 rfl hl (by decide) rfl (fun ls hl => ?_)
    refine lv_aload_nN hx hb dX5_stopWaiting_6 rfl (lv_at hl 0 rfl) ?_
    refine lv_ifnonnullN hx hb dX5_stopWaiting_7 ?_
    refine lv_iconst (v := (-1)) hx hb dX5_stopWaiting_10 (by decide) ?_
    have hs : sX5_stopWaiting w x = ((-1), w) := by unfold sX5_stopWaiting; rw [oe_none o_2]
    exact fin (by rw [hs]; dsimp only; exact hJ) (by rw [hs]) dX5_stopWaiting_11
  · skip
    obtain ⟨hq1, xq1, yq1⟩ := cartOf_some (hcn) o_2
    refine lv_astore_n (lv' := [(2, .ref (B + (wo k + (17 + 3 * q1)))), (0, .ref (B + wo k)), (1, .int x)]) hx hb dX5_stopWaiting_5 rfl hl (by decide) rfl (fun ls hl => ?_)
    refine lv_aload_n hx hb dX5_stopWaiting_6 rfl (lv_at hl 0 rfl) ?_
    refine lv_ifnonnull (tgt := 12) hx hb dX5_stopWaiting_7 (by decide) ?_
    refine lv_aload_n hx hb dX5_stopWaiting_12 rfl (lv_at hl 1 rfl) ?_
    refine lv_aload_n hx hb dX5_stopWaiting_13 rfl (lv_at hl 0 rfl) ?_
    refine gX5_118 X hJ (k := k) (w := w) (by omega) (i := q1) (by omega)  upW_1 dX5_stopWaiting_14 ?_
    refine kX5_106 X hJ (mX5_bridgeOf l E B _ k (w (104 + 8 * q1 + 2)) w (by omega) upW_1 (hcn)) rfl (lt_W0 (by omega)) (at_W (by omega) rfl) hl.1 ⟨Nat.le_of_ble_eq_true rfl, Nat.le_of_ble_eq_true rfl⟩ ⟨Nat.le_refl _, Nat.le_refl _⟩ (rest := []) rfl (Nat.le_of_ble_eq_true rfl) dX5_stopWaiting_17 (fun H locs hJ => ?_)
    rcases o_17 : sX5_bridgeOf w (w (104 + 8 * q1 + 2)) with _ | q2
    · skip
      refine lv_astore_nN (lv' := [(3, .null), (2, .ref (B + (wo k + (17 + 3 * q1)))), (0, .ref (B + wo k)), (1, .int x)]) hx hb dX5_stopWaiting_20 rfl hl (by decide) rfl (fun ls hl => ?_)
      refine lv_aload_nN hx hb dX5_stopWaiting_21 rfl (lv_at hl 0 rfl) ?_
      refine lv_ifnonnullN hx hb dX5_stopWaiting_22 ?_
      refine lv_bipush (v := (-5)) hx hb dX5_stopWaiting_25 (by decide) ?_
      have hs : sX5_stopWaiting w x = ((-5), w) := by unfold sX5_stopWaiting; rw [oe_some o_2, oe_none o_17]
      exact fin (by rw [hs]; dsimp only; exact hJ) (by rw [hs]) dX5_stopWaiting_27
    · skip
      obtain ⟨hq2, xq2, yq2⟩ := bridgeOf_some (hcn) o_17
      refine lv_astore_n (lv' := [(3, .ref (B + (wo k + (5 + q2)))), (2, .ref (B + (wo k + (17 + 3 * q1)))), (0, .ref (B + wo k)), (1, .int x)]) hx hb dX5_stopWaiting_20 rfl hl (by decide) rfl (fun ls hl => ?_)
      refine lv_aload_n hx hb dX5_stopWaiting_21 rfl (lv_at hl 0 rfl) ?_
      refine lv_ifnonnull (tgt := 28) hx hb dX5_stopWaiting_22 (by decide) ?_
      refine lv_aload_n hx hb dX5_stopWaiting_28 rfl (lv_at hl 2 rfl) ?_
      refine lv_aload_n hx hb dX5_stopWaiting_29 rfl (lv_at hl 1 rfl) ?_
      refine lv_aload_n hx hb dX5_stopWaiting_30 rfl (lv_at hl 0 rfl) ?_
      refine kX5_127 X hJ (mX5_release l E B _ k q1 q2 w (by omega) (by omega) (by omega) (hcn)) rfl (lt_W0 (by omega)) (at_W (by omega) rfl) hl.1 ⟨Nat.le_of_ble_eq_true rfl, Nat.le_of_ble_eq_true rfl⟩ ⟨Nat.le_refl _, Nat.le_refl _⟩ (rest := []) rfl (Nat.le_of_ble_eq_true rfl) dX5_stopWaiting_31 (fun H locs hJ => ?_)
      refine lv_aload_n hx hb dX5_stopWaiting_34 rfl (lv_at hl 0 rfl) ?_
      refine gX5_94 X hJ (k := k) (w := (sX5_release w q1 q2)) (by omega) (i := q2) (by omega)  upW_1 dX5_stopWaiting_35 ?_
      have hs : sX5_stopWaiting w x = (nI q2, (sX5_release w q1 q2)) := by unfold sX5_stopWaiting; rw [oe_some o_2, oe_some o_17]
      exact fin (by rw [hs]; dsimp only; exact hJ) (by rw [hs]) dX5_stopWaiting_38

def sX5_buyHint (w : Row) (x : Int32) (y : Int32) : Int32 × Row := oe (sX5_cartOf w x) (oe (sX5_bridgeOf w y) (((-1), w)) (fun q2 => ((-1), w))) (fun q1 => oe (sX5_bridgeOf w y) (((-1), w)) (fun q3 => if sX0_isAt w q3 (w (104 + 8 * q1)) = 0 then (((-5), w)) else (if w (104 + 8 * q1 + 1) < w (1) then (((-5), w)) else (if sX1_numbersLeft w q1 q3 = 1 then (((-5), w)) else ((sX1_numbersLeft (upd (sX1_halve (sX1_pay w q1 (w (1)) q3) q1 q3) (9) (((sX1_halve (sX1_pay w q1 (w (1)) q3) q1 q3) 9) + 1)) q1 q3, upd (sX1_halve (sX1_pay w q1 (w (1)) q3) q1 q3) (9) (((sX1_halve (sX1_pay w q1 (w (1)) q3) q1 q3) 9) + 1)))))))
set_option maxHeartbeats 4000000 in
set_option maxRecDepth 100000 in
theorem mX5_buyHint (l : Launch) (E : EE) (B : Nat) (g : GS) (k : Nat) (x : Int32) (y : Int32) (w : Row) (hk : k < 11)  (hcn : Cn w) : CG l yX5_buyHint cX5_buyHint 6 (some .int) 2 43 E B [.ref (B + wo k), .int x, .int y] (upW g k w) (some (.int (sX5_buyHint w x y).1)) (upW g k ((sX5_buyHint w x y).2)) := by
  refine mkI (own := RX5) (ty := .int) rfl (by decide) rfl (rfl) (Nat.le_of_ble_eq_true rfl) (fun P_ e_ s_ m_ a_ below meth cd Q X fin ls hl hJ => ?_)
  have hx := X.1
  have hb := X.2.1
  have hl : lv_has ls 6 [(0, .ref (B + wo k)), (1, .int x), (2, .int y)] := hl
  refine lv_aload_n hx hb dX5_buyHint_0 rfl (lv_at hl 0 rfl) ?_
  refine lv_iload_n hx hb dX5_buyHint_1 rfl (lv_at hl 1 rfl) ?_
  refine kX5_102 X hJ (mX5_cartOf l E B _ k x w (by omega) upW_1 (hcn)) rfl (lt_W0 (by omega)) (at_W (by omega) rfl) hl.1 ⟨Nat.le_of_ble_eq_true rfl, Nat.le_of_ble_eq_true rfl⟩ ⟨Nat.le_refl _, Nat.le_refl _⟩ (rest := []) rfl (Nat.le_of_ble_eq_true rfl) dX5_buyHint_2 (fun H locs hJ => ?_)
  rcases o_2 : sX5_cartOf w x with _ | q1
  · skip
    refine lv_astore_nN (lv' := [(3, .null), (0, .ref (B + wo k)), (1, .int x), (2, .int y)]) hx hb dX5_buyHint_5 rfl hl (by decide) rfl (fun ls hl => ?_)
    refine lv_aload_n hx hb dX5_buyHint_6 rfl (lv_at hl 1 rfl) ?_
    refine lv_iload_n hx hb dX5_buyHint_7 rfl (lv_at hl 3 rfl) ?_
    refine kX5_106 X hJ (mX5_bridgeOf l E B _ k y w (by omega) upW_1 (hcn)) rfl (lt_W0 (by omega)) (at_W (by omega) rfl) hl.1 ⟨Nat.le_of_ble_eq_true rfl, Nat.le_of_ble_eq_true rfl⟩ ⟨Nat.le_refl _, Nat.le_refl _⟩ (rest := []) rfl (Nat.le_of_ble_eq_true rfl) dX5_buyHint_8 (fun H locs hJ => ?_)
    rcases o_8 : sX5_bridgeOf w y with _ | q2
    · skip
      refine lv_astoreN (lv' := [(4, .null), (3, .null), (0, .ref (B + wo k)), (1, .int x), (2, .int y)]) hx hb dX5_buyHint_11 hl (by decide) rfl (fun ls hl => ?_)
      refine lv_aload_nN hx hb dX5_buyHint_13 rfl (lv_at hl 1 rfl) ?_
      refine lv_ifnullN (tgt := 22) hx hb dX5_buyHint_14 (by decide) ?_
      refine lv_iconst (v := (-1)) hx hb dX5_buyHint_22 (by decide) ?_
      have hs : sX5_buyHint w x y = ((-1), w) := by unfold sX5_buyHint; rw [oe_none o_2, oe_none o_8]
      exact fin (by rw [hs]; dsimp only; exact hJ) (by rw [hs]) dX5_buyHint_23
    · skip
      obtain ⟨hq2, xq2, yq2⟩ := bridgeOf_some (hcn) o_8
      refine lv_astore (lv' := [(4, .ref (B + (wo k + (5 + q2)))), (3, .null), (0, .ref (B + wo k)), (1, .int x), (2, .int y)]) hx hb dX5_buyHint_11 hl (by decide) rfl (fun ls hl => ?_)
      refine lv_aload_nN hx hb dX5_buyHint_13 rfl (lv_at hl 1 rfl) ?_
      refine lv_ifnullN (tgt := 22) hx hb dX5_buyHint_14 (by decide) ?_
      refine lv_iconst (v := (-1)) hx hb dX5_buyHint_22 (by decide) ?_
      have hs : sX5_buyHint w x y = ((-1), w) := by unfold sX5_buyHint; rw [oe_none o_2, oe_some o_8]
      exact fin (by rw [hs]; dsimp only; exact hJ) (by rw [hs]) dX5_buyHint_23
  · skip
    obtain ⟨hq1, xq1, yq1⟩ := cartOf_some (hcn) o_2
    refine lv_astore_n (lv' := [(3, .ref (B + (wo k + (17 + 3 * q1)))), (0, .ref (B + wo k)), (1, .int x), (2, .int y)]) hx hb dX5_buyHint_5 rfl hl (by decide) rfl (fun ls hl => ?_)
    refine lv_aload_n hx hb dX5_buyHint_6 rfl (lv_at hl 1 rfl) ?_
    refine lv_iload_n hx hb dX5_buyHint_7 rfl (lv_at hl 3 rfl) ?_
    refine kX5_106 X hJ (mX5_bridgeOf l E B _ k y w (by omega) upW_1 (hcn)) rfl (lt_W0 (by omega)) (at_W (by omega) rfl) hl.1 ⟨Nat.le_of_ble_eq_true rfl, Nat.le_of_ble_eq_true rfl⟩ ⟨Nat.le_refl _, Nat.le_refl _⟩ (rest := []) rfl (Nat.le_of_ble_eq_true rfl) dX5_buyHint_8 (fun H locs hJ => ?_)
    rcases o_8 : sX5_bridgeOf w y with _ | q3
    · skip
      refine lv_astoreN (lv' := [(4, .null), (3, .ref (B + (wo k + (17 + 3 * q1)))), (0, .ref (B + wo k)), (1, .int x), (2, .int y)]) hx hb dX5_buyHint_11 hl (by decide) rfl (fun ls hl => ?_)
      refine lv_aload_n hx hb dX5_buyHint_13 rfl (lv_at hl 1 rfl) ?_
      refine lv_ifnull hx hb dX5_buyHint_14 ?_
      refine lv_aloadN hx hb dX5_buyHint_17 (lv_at hl 0 rfl) ?_
      refine lv_ifnonnullN hx hb dX5_buyHint_19 ?_
      refine lv_iconst (v := (-1)) hx hb dX5_buyHint_22 (by decide) ?_
      have hs : sX5_buyHint w x y = ((-1), w) := by unfold sX5_buyHint; rw [oe_some o_2, oe_none o_8]
      exact fin (by rw [hs]; dsimp only; exact hJ) (by rw [hs]) dX5_buyHint_23
    · skip
      obtain ⟨hq3, xq3, yq3⟩ := bridgeOf_some (hcn) o_8
      refine lv_astore (lv' := [(4, .ref (B + (wo k + (5 + q3)))), (3, .ref (B + (wo k + (17 + 3 * q1)))), (0, .ref (B + wo k)), (1, .int x), (2, .int y)]) hx hb dX5_buyHint_11 hl (by decide) rfl (fun ls hl => ?_)
      refine lv_aload_n hx hb dX5_buyHint_13 rfl (lv_at hl 1 rfl) ?_
      refine lv_ifnull hx hb dX5_buyHint_14 ?_
      refine lv_aload hx hb dX5_buyHint_17 (lv_at hl 0 rfl) ?_
      refine lv_ifnonnull (tgt := 24) hx hb dX5_buyHint_19 (by decide) ?_
      refine lv_aload_n hx hb dX5_buyHint_24 rfl (lv_at hl 2 rfl) ?_
      refine gX5_9 X hJ (k := k) (w := w) (by omega) upW_1 dX5_buyHint_25 ?_
      refine lv_iconst (v := 1) hx hb dX5_buyHint_28 (by decide) ?_
      refine ld_set X hJ (k := k) (w := w) (by omega) upW_1 (j := 1) (by decide) (by omega) dX5_buyHint_29 ?_
      refine lv_istore (lv' := [(5, .int (w (1))), (4, .ref (B + (wo k + (5 + q3)))), (3, .ref (B + (wo k + (17 + 3 * q1)))), (0, .ref (B + wo k)), (1, .int x), (2, .int y)]) hx hb dX5_buyHint_30 hl (by decide) rfl (fun ls hl => ?_)
      refine lv_aload hx hb dX5_buyHint_32 (lv_at hl 1 rfl) ?_
      refine lv_aload_n hx hb dX5_buyHint_34 rfl (lv_at hl 2 rfl) ?_
      refine gX5_97 X hJ (k := k) (w := w) (by omega) (i := q1) (by omega)  upW_1 dX5_buyHint_35 ?_
      refine kX5_114 X hJ (mX0_isAt l E B _ k q3 (w (104 + 8 * q1)) w (by omega) (by omega) upW_1) rfl (lt_W (by omega) (by omega)) (at_B (by omega) (by omega) upW_1) hl.1 ⟨Nat.le_of_ble_eq_true rfl, Nat.le_of_ble_eq_true rfl⟩ ⟨Nat.le_refl _, Nat.le_refl _⟩ (rest := []) rfl (Nat.le_of_ble_eq_true rfl) dX5_buyHint_38 (fun H locs hJ => ?_)
      refine lv_if_eq (tgt := 63) hx hb dX5_buyHint_41 (by decide) (fun c_41 => ?_) (fun c_41 => ?_)
      · skip
        refine lv_bipush (v := (-5)) hx hb dX5_buyHint_63 (by decide) ?_
        have hs : sX5_buyHint w x y = ((-5), w) := by unfold sX5_buyHint; rw [oe_some o_2, oe_some o_8, if_pos c_41]
        exact fin (by rw [hs]; dsimp only; exact hJ) (by rw [hs]) dX5_buyHint_65
      · skip
        refine lv_aload_n hx hb dX5_buyHint_44 rfl (lv_at hl 2 rfl) ?_
        refine gX5_98 X hJ (k := k) (w := w) (by omega) (i := q1) (by omega)  upW_1 dX5_buyHint_45 ?_
        refine lv_iload hx hb dX5_buyHint_48 (lv_at hl 0 rfl) ?_
        refine lv_icmp_lt (tgt := 63) hx hb dX5_buyHint_50 (by decide) (fun c_50 => ?_) (fun c_50 => ?_)
        · skip
          refine lv_bipush (v := (-5)) hx hb dX5_buyHint_63 (by decide) ?_
          have hs : sX5_buyHint w x y = ((-5), w) := by unfold sX5_buyHint; rw [oe_some o_2, oe_some o_8, if_neg c_41, if_pos c_50]
          exact fin (by rw [hs]; dsimp only; exact hJ) (by rw [hs]) dX5_buyHint_65
        · skip
          refine lv_aload_n hx hb dX5_buyHint_53 rfl (lv_at hl 2 rfl) ?_
          refine lv_aload hx hb dX5_buyHint_54 (lv_at hl 1 rfl) ?_
          refine kX5_131 X hJ (mX1_numbersLeft l E B _ k q1 q3 w (by omega) (by omega) (by omega) upW_1) rfl (lt_W (by omega) (by omega)) (at_C (by omega) (by omega) upW_1) hl.1 ⟨Nat.le_of_ble_eq_true rfl, Nat.le_of_ble_eq_true rfl⟩ ⟨Nat.le_refl _, Nat.le_refl _⟩ (rest := []) rfl (Nat.le_of_ble_eq_true rfl) dX5_buyHint_56 (fun H locs hJ => ?_)
          refine lv_iconst (v := 1) hx hb dX5_buyHint_59 (by decide) ?_
          refine lv_icmp_ne (tgt := 66) hx hb dX5_buyHint_60 (by decide) (fun c_60 => ?_) (fun c_60 => ?_)
          · skip
            refine lv_aload_n hx hb dX5_buyHint_66 rfl (lv_at hl 2 rfl) ?_
            refine lv_iload hx hb dX5_buyHint_67 (lv_at hl 0 rfl) ?_
            refine lv_aload hx hb dX5_buyHint_69 (lv_at hl 1 rfl) ?_
            refine kX5_135 X hJ (mX1_pay l E B _ k q1 (w (1)) q3 w (by omega) (by omega) (by omega)) rfl (lt_W (by omega) (by omega)) (at_C (by omega) (by omega) upW_1) hl.1 ⟨Nat.le_of_ble_eq_true rfl, Nat.le_of_ble_eq_true rfl⟩ ⟨Nat.le_refl _, Nat.le_refl _⟩ (rest := []) rfl (Nat.le_of_ble_eq_true rfl) dX5_buyHint_71 (fun H locs hJ => ?_)
            refine lv_aload_n hx hb dX5_buyHint_74 rfl (lv_at hl 2 rfl) ?_
            refine lv_aload hx hb dX5_buyHint_75 (lv_at hl 1 rfl) ?_
            refine kX5_139 X hJ (mX1_halve l E B _ k q1 q3 (sX1_pay w q1 (w (1)) q3) (by omega) (by omega) (by omega)) rfl (lt_W (by omega) (by omega)) (at_C (by omega) (by omega) upW_1) hl.1 ⟨Nat.le_of_ble_eq_true rfl, Nat.le_of_ble_eq_true rfl⟩ ⟨Nat.le_refl _, Nat.le_refl _⟩ (rest := []) rfl (Nat.le_of_ble_eq_true rfl) dX5_buyHint_77 (fun H locs hJ => ?_)
            refine lv_aload_n hx hb dX5_buyHint_80 rfl (lv_at hl 3 rfl) ?_
            refine lv_dup hx hb dX5_buyHint_81 rfl ?_
            refine gX5_69 X hJ (k := k) (w := (sX1_halve (sX1_pay w q1 (w (1)) q3) q1 q3)) (by omega) upW_1 dX5_buyHint_82 ?_
            refine lv_iconst (v := 1) hx hb dX5_buyHint_85 (by decide) ?_
            refine lv_iadd hx hb dX5_buyHint_86 ?_
            refine pX5_69 X hJ (k := k) (by omega) dX5_buyHint_87 (fun H locs hJ => ?_)
            refine lv_aload_n hx hb dX5_buyHint_90 rfl (lv_at hl 2 rfl) ?_
            refine lv_aload hx hb dX5_buyHint_91 (lv_at hl 1 rfl) ?_
            refine kX5_131 X hJ (mX1_numbersLeft l E B _ k q1 q3 (upd (sX1_halve (sX1_pay w q1 (w (1)) q3) q1 q3) (9) (((sX1_halve (sX1_pay w q1 (w (1)) q3) q1 q3) 9) + 1)) (by omega) (by omega) (by omega) upW_1) rfl (lt_W (by omega) (by omega)) (at_C (by omega) (by omega) upW_1) hl.1 ⟨Nat.le_of_ble_eq_true rfl, Nat.le_of_ble_eq_true rfl⟩ ⟨Nat.le_refl _, Nat.le_refl _⟩ (rest := []) rfl (Nat.le_of_ble_eq_true rfl) dX5_buyHint_93 (fun H locs hJ => ?_)
            have hs : sX5_buyHint w x y = (sX1_numbersLeft (upd (sX1_halve (sX1_pay w q1 (w (1)) q3) q1 q3) (9) (((sX1_halve (sX1_pay w q1 (w (1)) q3) q1 q3) 9) + 1)) q1 q3, upd (sX1_halve (sX1_pay w q1 (w (1)) q3) q1 q3) (9) (((sX1_halve (sX1_pay w q1 (w (1)) q3) q1 q3) 9) + 1)) := by unfold sX5_buyHint; rw [oe_some o_2, oe_some o_8, if_neg c_41, if_neg c_50, if_neg c_60]
            exact fin (by rw [hs]; dsimp only; exact hJ) (by rw [hs]) dX5_buyHint_96
          · skip
            refine lv_bipush (v := (-5)) hx hb dX5_buyHint_63 (by decide) ?_
            have hs : sX5_buyHint w x y = ((-5), w) := by unfold sX5_buyHint; rw [oe_some o_2, oe_some o_8, if_neg c_41, if_neg c_50, if_pos c_60]
            exact fin (by rw [hs]; dsimp only; exact hJ) (by rw [hs]) dX5_buyHint_65

