theorem nI_pr {n : Nat} (h : 0 < n) : nI n - 1 = nI (n - 1) := by
  obtain ⟨m, rfl⟩ : ∃ m, n = m + 1 := ⟨n - 1, by omega⟩
  exact nI_pred m
theorem isTown_of {x : Int32} (h : ¬ sX7_isTown x = 0) : x = nI (nn x) ∧ nn x < 8 := by
  have b := (in_32 (x := x) (y := 0) (z := 7)).mp h
  have e0 : (0 : Int64).toInt = 0 := by decide
  have e7 : (7 : Int64).toInt = 7 := by decide
  rw [e0, e7] at b
  have := nn_toInt b.1
  exact ⟨nI_nn b.1, by omega⟩
theorem in07_of {x : Int32} (h : ¬ sX7_in x.toInt64 0 7 = 0) : x = nI (nn x) ∧ nn x < 8 := isTown_of h
theorem nlt4 {y : Int32} (h : 4 ≤ nI (nn y)) (hy : nn y < 8) : 4 ≤ nn y := by
  rcases Nat.lt_or_ge (nn y) 4 with q | q
  · exact absurd h (nI_ge (b := 4) q (by omega))
  · exact q
theorem lt4 {y : Int32} (h : ¬ 4 ≤ nI (nn y)) (hy : nn y < 8) : nn y < 4 := by
  rcases Nat.lt_or_ge (nn y) 4 with q | q
  · exact q
  · exact absurd (nI_le q (by omega)) h
/-- where the carts of a row wait: at a bridge, or nowhere -/
def Ats (w : Row) : Prop := ∀ c, c < 8 → w (104 + 8 * c + 2) = -6 ∨ sm (w (104 + 8 * c + 2)) 11
/-- the ends of the ranges -/
def Rg (w : Row) : Prop := ∀ c i, c < 8 → i < 12 → 0 ≤ (w (168 + 2 * (12 * c + i))).toInt ∧ (w (168 + 2 * (12 * c + i) + 1)).toInt ≤ 999
def sX7_ofBridge (w : Row) (x : Int32) (y : Int32) : Int32 := if sX7_isBridge w x = 0 then ((-1)) else (if sX7_in y.toInt64 0 7 = 0 then ((-2)) else (if nI (nn y) = 4 then (sX7_many w (nn x)) else (if 4 ≤ nI (nn y) then (w (20 + 7 * (nn x) + (nn y - 1))) else (w (20 + 7 * (nn x) + (nn y))))))
set_option maxHeartbeats 4000000 in
set_option maxRecDepth 100000 in
theorem mX7_ofBridge (l : Launch) (E : EE) (B : Nat) (g : GS) (x : Int32) (y : Int32) (w : Row)  (hw : g.2.2.1 0 = w) (hrn : Rn w) : CG l yX7_ofBridge cX7_ofBridge 3 (some .int) 2 46 E B [.ref (B + 459), .int x, .int y] g (some (.int (sX7_ofBridge w x y))) g := by
  refine mkI (own := RX7) (ty := .int) rfl (by decide) rfl (rfl) (Nat.le_of_ble_eq_true rfl) (fun P_ e_ s_ m_ a_ below meth cd Q X fin ls hl hJ => ?_)
  have hx := X.1
  have hb := X.2.1
  have hl : lv_has ls 3 [(0, .ref (B + 459)), (1, .int x), (2, .int y)] := hl
  refine lv_aload_n hx hb dX7_ofBridge_0 rfl (lv_at hl 0 rfl) ?_
  refine lv_iload_n hx hb dX7_ofBridge_1 rfl (lv_at hl 1 rfl) ?_
  refine kX7_98 X hJ (mX7_isBridge l E B _ x w hw) rfl (by omega) (at_M rfl) hl.1 ⟨Nat.le_of_ble_eq_true rfl, Nat.le_of_ble_eq_true rfl⟩ ⟨Nat.le_refl _, Nat.le_refl _⟩ (rest := []) rfl (Nat.le_of_ble_eq_true rfl) dX7_ofBridge_2 (fun H locs hJ => ?_)
  refine lv_if_ne (tgt := 10) hx hb dX7_ofBridge_5 (by decide) (fun c_5 => ?_) (fun c_5 => ?_)
  · skip
    refine lv_iload_n hx hb dX7_ofBridge_10 rfl (lv_at hl 2 rfl) ?_
    refine lv_i2l hx hb dX7_ofBridge_11 rfl ?_
    refine lv_lconst (v := 0) hx hb dX7_ofBridge_12 (by decide) ?_
    refine lv_ldc2 (own := RX7) hx hb X.2.2.2.1 (X.2.2.2.2.1 (.constantLong RX7 79 7) (tw (i := 804) (by decide +kernel) (by decide))) dX7_ofBridge_13 ?_
    refine kX7_81 X hJ (mX7_in l E B _ y.toInt64 0 7) rfl hl.1 ⟨Nat.le_of_ble_eq_true rfl, Nat.le_of_ble_eq_true rfl⟩ ⟨Nat.le_refl _, Nat.le_refl _⟩ (rest := []) rfl (Nat.le_of_ble_eq_true rfl) dX7_ofBridge_16 (fun H locs hJ => ?_)
    refine lv_if_ne (tgt := 25) hx hb dX7_ofBridge_19 (by decide) (fun c_19 => ?_) (fun c_19 => ?_)
    · skip
      have hB_x := (isBridge_of hrn.1 c_5).2.2
      have hy := (in07_of c_19).2
      have hl : lv_has ls 3 [(0, .ref (B + 459)), (1, .int (nI (nn x))), (2, .int y)] := by rw [← show x = nI (nn x) from (isBridge_of hrn.1 c_5).1]; exact hl
      have hl : lv_has ls 3 [(0, .ref (B + 459)), (1, .int (nI (nn x))), (2, .int (nI (nn y)))] := by rw [← show y = nI (nn y) from (in07_of c_19).1]; exact hl
      refine lv_iload_n hx hb dX7_ofBridge_25 rfl (lv_at hl 2 rfl) ?_
      refine lv_iconst (v := 4) hx hb dX7_ofBridge_26 (by decide) ?_
      refine lv_icmp_ne (tgt := 39) hx hb dX7_ofBridge_27 (by decide) (fun c_27 => ?_) (fun c_27 => ?_)
      · skip
        refine lv_aload_n hx hb dX7_ofBridge_39 rfl (lv_at hl 0 rfl) ?_
        refine gX7_7 X hJ (w := g.2.2.2) rfl dX7_ofBridge_40 ?_
        refine lv_iconst (v := 0) hx hb dX7_ofBridge_43 (by decide) ?_
        refine lv_iload_n hx hb dX7_ofBridge_44 rfl (lv_at hl 1 rfl) ?_
        refine kX7_31 X hJ (qX7_bridgeAt l E B _ 0 (nn x)) rfl hl.1 ⟨Nat.le_of_ble_eq_true rfl, Nat.le_of_ble_eq_true rfl⟩ ⟨Nat.le_refl _, Nat.le_refl _⟩ (rest := [.ref (B + 460)]) rfl (Nat.le_of_ble_eq_true rfl) dX7_ofBridge_45 (fun H locs hJ => ?_)
        refine lv_iload_n hx hb dX7_ofBridge_48 rfl (lv_at hl 2 rfl) ?_
        refine lv_iconst (v := 4) hx hb dX7_ofBridge_49 (by decide) ?_
        refine lv_icmp_ge (tgt := 57) hx hb dX7_ofBridge_50 (by decide) (fun c_50 => ?_) (fun c_50 => ?_)
        · skip
          have hy4 := nlt4 c_50 hy
          refine lv_iload_n hx hb dX7_ofBridge_57 rfl (lv_at hl 2 rfl) ?_
          refine lv_iconst (v := 1) hx hb dX7_ofBridge_58 (by decide) ?_
          refine lv_isub hx hb dX7_ofBridge_59 ?_
          refine cvt (y := nI (nn y - 1)) (nI_pr (by omega)) ?_
          refine xiadd (z := nI (360 * 0 + (20 + 7 * (nn x) + (nn y - 1)))) hx hb dX7_ofBridge_60 (nI_a3 0 (20 + 7 * (nn x)) (nn y - 1)) ?_
          refine ld_s X hJ (t := 0) (w := w) (by omega) hw (j := 20 + 7 * (nn x) + (nn y - 1)) (rfl) (by omega) dX7_ofBridge_61 ?_
          have hs : sX7_ofBridge w x y = w (20 + 7 * (nn x) + (nn y - 1)) := by unfold sX7_ofBridge; rw [if_neg c_5, if_neg c_19, if_neg c_27, if_pos c_50]
          exact fin hJ (by rw [hs]) dX7_ofBridge_62
        · skip
          have hy4 := lt4 c_50 hy
          refine lv_iload_n hx hb dX7_ofBridge_53 rfl (lv_at hl 2 rfl) ?_
          refine lv_goto (tgt := 60) hx hb dX7_ofBridge_54 (by decide) ?_
          refine xiadd (z := nI (360 * 0 + (20 + 7 * (nn x) + (nn y)))) hx hb dX7_ofBridge_60 (nI_a3 0 (20 + 7 * (nn x)) (nn y)) ?_
          refine ld_s X hJ (t := 0) (w := w) (by omega) hw (j := 20 + 7 * (nn x) + (nn y)) (rfl) (by omega) dX7_ofBridge_61 ?_
          have hs : sX7_ofBridge w x y = w (20 + 7 * (nn x) + (nn y)) := by unfold sX7_ofBridge; rw [if_neg c_5, if_neg c_19, if_neg c_27, if_neg c_50]
          exact fin hJ (by rw [hs]) dX7_ofBridge_62
      · skip
        refine lv_aload_n hx hb dX7_ofBridge_30 rfl (lv_at hl 0 rfl) ?_
        refine lv_iconst (v := 0) hx hb dX7_ofBridge_31 (by decide) ?_
        refine lv_iload_n hx hb dX7_ofBridge_32 rfl (lv_at hl 1 rfl) ?_
        refine kX7_47 X hJ (mX7_many l E B _ 0 (nn x) w (by omega) (by omega) hw (hrn)) rfl (by omega) (at_M rfl) hl.1 ⟨Nat.le_of_ble_eq_true rfl, Nat.le_of_ble_eq_true rfl⟩ ⟨Nat.le_refl _, Nat.le_refl _⟩ (rest := []) rfl (Nat.le_of_ble_eq_true rfl) dX7_ofBridge_33 (fun H locs hJ => ?_)
        refine lv_goto (tgt := 62) hx hb dX7_ofBridge_36 (by decide) ?_
        have hs : sX7_ofBridge w x y = sX7_many w (nn x) := by unfold sX7_ofBridge; rw [if_neg c_5, if_neg c_19, if_pos c_27]
        exact fin hJ (by rw [hs]) dX7_ofBridge_62
    · skip
      refine lv_bipush (v := (-2)) hx hb dX7_ofBridge_22 (by decide) ?_
      have hs : sX7_ofBridge w x y = (-2) := by unfold sX7_ofBridge; rw [if_neg c_5, if_pos c_19]
      exact fin hJ (by rw [hs]) dX7_ofBridge_24
  · skip
    refine lv_iconst (v := (-1)) hx hb dX7_ofBridge_8 (by decide) ?_
    have hs : sX7_ofBridge w x y = (-1) := by unfold sX7_ofBridge; rw [if_pos c_5]
    exact fin hJ (by rw [hs]) dX7_ofBridge_9

def sX7_ofCart (w : Row) (x : Int32) (y : Int32) : Int32 := if sX7_isCart w x = 0 then ((-1)) else (if sX7_in y.toInt64 0 7 = 0 then ((-2)) else (w (104 + 8 * (nn x) + (nn y))))
set_option maxHeartbeats 4000000 in
set_option maxRecDepth 100000 in
theorem mX7_ofCart (l : Launch) (E : EE) (B : Nat) (g : GS) (x : Int32) (y : Int32) (w : Row)  (hw : g.2.2.1 0 = w) (hrn : Rn w) : CG l yX7_ofCart cX7_ofCart 3 (some .int) 2 46 E B [.ref (B + 459), .int x, .int y] g (some (.int (sX7_ofCart w x y))) g := by
  refine mkI (own := RX7) (ty := .int) rfl (by decide) rfl (rfl) (Nat.le_of_ble_eq_true rfl) (fun P_ e_ s_ m_ a_ below meth cd Q X fin ls hl hJ => ?_)
  have hx := X.1
  have hb := X.2.1
  have hl : lv_has ls 3 [(0, .ref (B + 459)), (1, .int x), (2, .int y)] := hl
  refine lv_aload_n hx hb dX7_ofCart_0 rfl (lv_at hl 0 rfl) ?_
  refine lv_iload_n hx hb dX7_ofCart_1 rfl (lv_at hl 1 rfl) ?_
  refine kX7_95 X hJ (mX7_isCart l E B _ x w hw) rfl (by omega) (at_M rfl) hl.1 ⟨Nat.le_of_ble_eq_true rfl, Nat.le_of_ble_eq_true rfl⟩ ⟨Nat.le_refl _, Nat.le_refl _⟩ (rest := []) rfl (Nat.le_of_ble_eq_true rfl) dX7_ofCart_2 (fun H locs hJ => ?_)
  refine lv_if_ne (tgt := 12) hx hb dX7_ofCart_5 (by decide) (fun c_5 => ?_) (fun c_5 => ?_)
  · skip
    refine lv_iload_n hx hb dX7_ofCart_12 rfl (lv_at hl 2 rfl) ?_
    refine lv_i2l hx hb dX7_ofCart_13 rfl ?_
    refine lv_lconst (v := 0) hx hb dX7_ofCart_14 (by decide) ?_
    refine lv_ldc2 (own := RX7) hx hb X.2.2.2.1 (X.2.2.2.2.1 (.constantLong RX7 79 7) (tw (i := 804) (by decide +kernel) (by decide))) dX7_ofCart_15 ?_
    refine kX7_81 X hJ (mX7_in l E B _ y.toInt64 0 7) rfl hl.1 ⟨Nat.le_of_ble_eq_true rfl, Nat.le_of_ble_eq_true rfl⟩ ⟨Nat.le_refl _, Nat.le_refl _⟩ (rest := []) rfl (Nat.le_of_ble_eq_true rfl) dX7_ofCart_18 (fun H locs hJ => ?_)
    refine lv_if_ne (tgt := 29) hx hb dX7_ofCart_21 (by decide) (fun c_21 => ?_) (fun c_21 => ?_)
    · skip
      have hC_x := (isCart_of hrn.1 c_5).2.2
      have hy := (in07_of c_21).2
      have hl : lv_has ls 3 [(0, .ref (B + 459)), (1, .int (nI (nn x))), (2, .int y)] := by rw [← show x = nI (nn x) from (isCart_of hrn.1 c_5).1]; exact hl
      have hl : lv_has ls 3 [(0, .ref (B + 459)), (1, .int (nI (nn x))), (2, .int (nI (nn y)))] := by rw [← show y = nI (nn y) from (in07_of c_21).1]; exact hl
      refine lv_aload_n hx hb dX7_ofCart_29 rfl (lv_at hl 0 rfl) ?_
      refine gX7_7 X hJ (w := g.2.2.2) rfl dX7_ofCart_30 ?_
      refine lv_iconst (v := 0) hx hb dX7_ofCart_33 (by decide) ?_
      refine lv_iload_n hx hb dX7_ofCart_34 rfl (lv_at hl 1 rfl) ?_
      refine kX7_40 X hJ (qX7_cartAt l E B _ 0 (nn x)) rfl hl.1 ⟨Nat.le_of_ble_eq_true rfl, Nat.le_of_ble_eq_true rfl⟩ ⟨Nat.le_refl _, Nat.le_refl _⟩ (rest := [.ref (B + 460)]) rfl (Nat.le_of_ble_eq_true rfl) dX7_ofCart_35 (fun H locs hJ => ?_)
      refine lv_iload_n hx hb dX7_ofCart_38 rfl (lv_at hl 2 rfl) ?_
      refine xiadd (z := nI (360 * 0 + (104 + 8 * (nn x) + (nn y)))) hx hb dX7_ofCart_39 (nI_a3 0 (104 + 8 * (nn x)) (nn y)) ?_
      refine ld_s X hJ (t := 0) (w := w) (by omega) hw (j := 104 + 8 * (nn x) + (nn y)) (rfl) (by omega) dX7_ofCart_40 ?_
      have hs : sX7_ofCart w x y = w (104 + 8 * (nn x) + (nn y)) := by unfold sX7_ofCart; rw [if_neg c_5, if_neg c_21]
      exact fin hJ (by rw [hs]) dX7_ofCart_41
    · skip
      refine lv_bipush (v := (-2)) hx hb dX7_ofCart_24 (by decide) ?_
      refine lv_goto (tgt := 41) hx hb dX7_ofCart_26 (by decide) ?_
      have hs : sX7_ofCart w x y = (-2) := by unfold sX7_ofCart; rw [if_neg c_5, if_pos c_21]
      exact fin hJ (by rw [hs]) dX7_ofCart_41
  · skip
    refine lv_iconst (v := (-1)) hx hb dX7_ofCart_8 (by decide) ?_
    refine lv_goto (tgt := 41) hx hb dX7_ofCart_9 (by decide) ?_
    have hs : sX7_ofCart w x y = (-1) := by unfold sX7_ofCart; rw [if_pos c_5]
    exact fin hJ (by rw [hs]) dX7_ofCart_41

def sX7_knows (w : Row) (x : Int32) (y : Int32) (z : Int32) : Int32 := if sX7_isCart w x = 0 then ((-1)) else (if sX7_isBridge w y = 0 then ((-1)) else (if z = 0 then (w (168 + 2 * (12 * (nn x) + (nn y)) + (nn z))) else (if z = 1 then (w (168 + 2 * (12 * (nn x) + (nn y)) + (nn z))) else ((-2)))))
set_option maxHeartbeats 4000000 in
set_option maxRecDepth 100000 in
theorem mX7_knows (l : Launch) (E : EE) (B : Nat) (g : GS) (x : Int32) (y : Int32) (z : Int32) (w : Row)  (hw : g.2.2.1 0 = w) (hrn : Rn w) : CG l yX7_knows cX7_knows 4 (some .int) 2 46 E B [.ref (B + 459), .int x, .int y, .int z] g (some (.int (sX7_knows w x y z))) g := by
  refine mkI (own := RX7) (ty := .int) rfl (by decide) rfl (rfl) (Nat.le_of_ble_eq_true rfl) (fun P_ e_ s_ m_ a_ below meth cd Q X fin ls hl hJ => ?_)
  have hx := X.1
  have hb := X.2.1
  have hl : lv_has ls 4 [(0, .ref (B + 459)), (1, .int x), (2, .int y), (3, .int z)] := hl
  refine lv_aload_n hx hb dX7_knows_0 rfl (lv_at hl 0 rfl) ?_
  refine lv_iload_n hx hb dX7_knows_1 rfl (lv_at hl 1 rfl) ?_
  refine kX7_95 X hJ (mX7_isCart l E B _ x w hw) rfl (by omega) (at_M rfl) hl.1 ⟨Nat.le_of_ble_eq_true rfl, Nat.le_of_ble_eq_true rfl⟩ ⟨Nat.le_refl _, Nat.le_refl _⟩ (rest := []) rfl (Nat.le_of_ble_eq_true rfl) dX7_knows_2 (fun H locs hJ => ?_)
  refine lv_if_eq (tgt := 16) hx hb dX7_knows_5 (by decide) (fun c_5 => ?_) (fun c_5 => ?_)
  · skip
    refine lv_iconst (v := (-1)) hx hb dX7_knows_16 (by decide) ?_
    have hs : sX7_knows w x y z = (-1) := by unfold sX7_knows; rw [if_pos c_5]
    exact fin hJ (by rw [hs]) dX7_knows_17
  · skip
    refine lv_aload_n hx hb dX7_knows_8 rfl (lv_at hl 0 rfl) ?_
    refine lv_iload_n hx hb dX7_knows_9 rfl (lv_at hl 2 rfl) ?_
    refine kX7_98 X hJ (mX7_isBridge l E B _ y w hw) rfl (by omega) (at_M rfl) hl.1 ⟨Nat.le_of_ble_eq_true rfl, Nat.le_of_ble_eq_true rfl⟩ ⟨Nat.le_refl _, Nat.le_refl _⟩ (rest := []) rfl (Nat.le_of_ble_eq_true rfl) dX7_knows_10 (fun H locs hJ => ?_)
    refine lv_if_ne (tgt := 18) hx hb dX7_knows_13 (by decide) (fun c_13 => ?_) (fun c_13 => ?_)
    · skip
      have hC_x := (isCart_of hrn.1 c_5).2.2
      have hB_y := (isBridge_of hrn.1 c_13).2.2
      have hl : lv_has ls 4 [(0, .ref (B + 459)), (1, .int (nI (nn x))), (2, .int y), (3, .int z)] := by rw [← show x = nI (nn x) from (isCart_of hrn.1 c_5).1]; exact hl
      have hl : lv_has ls 4 [(0, .ref (B + 459)), (1, .int (nI (nn x))), (2, .int (nI (nn y))), (3, .int z)] := by rw [← show y = nI (nn y) from (isBridge_of hrn.1 c_13).1]; exact hl
      refine lv_iload_n hx hb dX7_knows_18 rfl (lv_at hl 3 rfl) ?_
      refine lv_if_eq (tgt := 27) hx hb dX7_knows_19 (by decide) (fun c_19 => ?_) (fun c_19 => ?_)
      · skip
        have hz : nn z < 2 := by first | (rw [c_19]; decide) | (rw [c_24]; decide)
        have hl : lv_has ls 4 [(0, .ref (B + 459)), (1, .int (nI (nn x))), (2, .int (nI (nn y))), (3, .int (nI (nn z)))] := by rw [← show z = nI (nn z) from by first | (rw [c_19]; rfl) | (rw [c_24]; rfl)]; exact hl
        refine lv_aload_n hx hb dX7_knows_27 rfl (lv_at hl 0 rfl) ?_
        refine gX7_7 X hJ (w := g.2.2.2) rfl dX7_knows_28 ?_
        refine lv_iconst (v := 0) hx hb dX7_knows_31 (by decide) ?_
        refine lv_iload_n hx hb dX7_knows_32 rfl (lv_at hl 1 rfl) ?_
        refine lv_iload_n hx hb dX7_knows_33 rfl (lv_at hl 2 rfl) ?_
        refine kX7_36 X hJ (qX7_rangeAt l E B _ 0 (nn x) (nn y)) rfl hl.1 ⟨Nat.le_of_ble_eq_true rfl, Nat.le_of_ble_eq_true rfl⟩ ⟨Nat.le_refl _, Nat.le_refl _⟩ (rest := [.ref (B + 460)]) rfl (Nat.le_of_ble_eq_true rfl) dX7_knows_34 (fun H locs hJ => ?_)
        refine lv_iload_n hx hb dX7_knows_37 rfl (lv_at hl 3 rfl) ?_
        refine xiadd (z := nI (360 * 0 + (168 + 2 * (12 * (nn x) + (nn y)) + (nn z)))) hx hb dX7_knows_38 (nI_a3 0 (168 + 2 * (12 * (nn x) + (nn y))) (nn z)) ?_
        refine ld_s X hJ (t := 0) (w := w) (by omega) hw (j := 168 + 2 * (12 * (nn x) + (nn y)) + (nn z)) (rfl) (by omega) dX7_knows_39 ?_
        refine lv_goto (tgt := 45) hx hb dX7_knows_40 (by decide) ?_
        have hs : sX7_knows w x y z = w (168 + 2 * (12 * (nn x) + (nn y)) + (nn z)) := by unfold sX7_knows; rw [if_neg c_5, if_neg c_13, if_pos c_19]
        exact fin hJ (by rw [hs]) dX7_knows_45
      · skip
        refine lv_iload_n hx hb dX7_knows_22 rfl (lv_at hl 3 rfl) ?_
        refine lv_iconst (v := 1) hx hb dX7_knows_23 (by decide) ?_
        refine lv_icmp_ne (tgt := 43) hx hb dX7_knows_24 (by decide) (fun c_24 => ?_) (fun c_24 => ?_)
        · skip
          refine lv_bipush (v := (-2)) hx hb dX7_knows_43 (by decide) ?_
          have hs : sX7_knows w x y z = (-2) := by unfold sX7_knows; rw [if_neg c_5, if_neg c_13, if_neg c_19, if_neg c_24]
          exact fin hJ (by rw [hs]) dX7_knows_45
        · skip
          have hz : nn z < 2 := by first | (rw [c_19]; decide) | (rw [c_24]; decide)
          have hl : lv_has ls 4 [(0, .ref (B + 459)), (1, .int (nI (nn x))), (2, .int (nI (nn y))), (3, .int (nI (nn z)))] := by rw [← show z = nI (nn z) from by first | (rw [c_19]; rfl) | (rw [c_24]; rfl)]; exact hl
          refine lv_aload_n hx hb dX7_knows_27 rfl (lv_at hl 0 rfl) ?_
          refine gX7_7 X hJ (w := g.2.2.2) rfl dX7_knows_28 ?_
          refine lv_iconst (v := 0) hx hb dX7_knows_31 (by decide) ?_
          refine lv_iload_n hx hb dX7_knows_32 rfl (lv_at hl 1 rfl) ?_
          refine lv_iload_n hx hb dX7_knows_33 rfl (lv_at hl 2 rfl) ?_
          refine kX7_36 X hJ (qX7_rangeAt l E B _ 0 (nn x) (nn y)) rfl hl.1 ⟨Nat.le_of_ble_eq_true rfl, Nat.le_of_ble_eq_true rfl⟩ ⟨Nat.le_refl _, Nat.le_refl _⟩ (rest := [.ref (B + 460)]) rfl (Nat.le_of_ble_eq_true rfl) dX7_knows_34 (fun H locs hJ => ?_)
          refine lv_iload_n hx hb dX7_knows_37 rfl (lv_at hl 3 rfl) ?_
          refine xiadd (z := nI (360 * 0 + (168 + 2 * (12 * (nn x) + (nn y)) + (nn z)))) hx hb dX7_knows_38 (nI_a3 0 (168 + 2 * (12 * (nn x) + (nn y))) (nn z)) ?_
          refine ld_s X hJ (t := 0) (w := w) (by omega) hw (j := 168 + 2 * (12 * (nn x) + (nn y)) + (nn z)) (rfl) (by omega) dX7_knows_39 ?_
          refine lv_goto (tgt := 45) hx hb dX7_knows_40 (by decide) ?_
          have hs : sX7_knows w x y z = w (168 + 2 * (12 * (nn x) + (nn y)) + (nn z)) := by unfold sX7_knows; rw [if_neg c_5, if_neg c_13, if_neg c_19, if_pos c_24]
          exact fin hJ (by rw [hs]) dX7_knows_45
    · skip
      refine lv_iconst (v := (-1)) hx hb dX7_knows_16 (by decide) ?_
      have hs : sX7_knows w x y z = (-1) := by unfold sX7_knows; rw [if_neg c_5, if_pos c_13]
      exact fin hJ (by rw [hs]) dX7_knows_17

def sX7_waits (w : Row) (x : Int32) (y : Int32) : Int32 := if sX7_isBridge w x = 0 then ((-1)) else (if sX7_in y.toInt64 0 (((sX7_many w (nn x)) - 1).toInt64) = 0 then ((-1)) else (sX7_waiter w (nn x) y))
set_option maxHeartbeats 4000000 in
set_option maxRecDepth 100000 in
theorem mX7_waits (l : Launch) (E : EE) (B : Nat) (g : GS) (x : Int32) (y : Int32) (w : Row)  (hw : g.2.2.1 0 = w) (hrn : Rn w) : CG l yX7_waits cX7_waits 3 (some .int) 2 47 E B [.ref (B + 459), .int x, .int y] g (some (.int (sX7_waits w x y))) g := by
  refine mkI (own := RX7) (ty := .int) rfl (by decide) rfl (rfl) (Nat.le_of_ble_eq_true rfl) (fun P_ e_ s_ m_ a_ below meth cd Q X fin ls hl hJ => ?_)
  have hx := X.1
  have hb := X.2.1
  have hl : lv_has ls 3 [(0, .ref (B + 459)), (1, .int x), (2, .int y)] := hl
  refine lv_aload_n hx hb dX7_waits_0 rfl (lv_at hl 0 rfl) ?_
  refine lv_iload_n hx hb dX7_waits_1 rfl (lv_at hl 1 rfl) ?_
  refine kX7_98 X hJ (mX7_isBridge l E B _ x w hw) rfl (by omega) (at_M rfl) hl.1 ⟨Nat.le_of_ble_eq_true rfl, Nat.le_of_ble_eq_true rfl⟩ ⟨Nat.le_refl _, Nat.le_refl _⟩ (rest := []) rfl (Nat.le_of_ble_eq_true rfl) dX7_waits_2 (fun H locs hJ => ?_)
  refine lv_if_eq (tgt := 26) hx hb dX7_waits_5 (by decide) (fun c_5 => ?_) (fun c_5 => ?_)
  · skip
    refine lv_iconst (v := (-1)) hx hb dX7_waits_26 (by decide) ?_
    refine lv_goto (tgt := 37) hx hb dX7_waits_27 (by decide) ?_
    have hs : sX7_waits w x y = (-1) := by unfold sX7_waits; rw [if_pos c_5]
    exact fin hJ (by rw [hs]) dX7_waits_37
  · skip
    have hB_x := (isBridge_of hrn.1 c_5).2.2
    have hl : lv_has ls 3 [(0, .ref (B + 459)), (1, .int (nI (nn x))), (2, .int y)] := by rw [← show x = nI (nn x) from (isBridge_of hrn.1 c_5).1]; exact hl
    refine lv_iload_n hx hb dX7_waits_8 rfl (lv_at hl 2 rfl) ?_
    refine lv_i2l hx hb dX7_waits_9 rfl ?_
    refine lv_lconst (v := 0) hx hb dX7_waits_10 (by decide) ?_
    refine lv_aload_n hx hb dX7_waits_11 rfl (lv_at hl 0 rfl) ?_
    refine lv_iconst (v := 0) hx hb dX7_waits_12 (by decide) ?_
    refine lv_iload_n hx hb dX7_waits_13 rfl (lv_at hl 1 rfl) ?_
    refine kX7_47 X hJ (mX7_many l E B _ 0 (nn x) w (by omega) (by omega) hw (hrn)) rfl (by omega) (at_M rfl) hl.1 ⟨Nat.le_of_ble_eq_true rfl, Nat.le_of_ble_eq_true rfl⟩ ⟨Nat.le_refl _, Nat.le_refl _⟩ (rest := [.long 0, .long y.toInt64]) rfl (Nat.le_of_ble_eq_true rfl) dX7_waits_14 (fun H locs hJ => ?_)
    refine lv_iconst (v := 1) hx hb dX7_waits_17 (by decide) ?_
    refine lv_isub hx hb dX7_waits_18 ?_
    refine lv_i2l hx hb dX7_waits_19 rfl ?_
    refine kX7_81 X hJ (mX7_in l E B _ y.toInt64 0 (((sX7_many w (nn x)) - 1).toInt64)) rfl hl.1 ⟨Nat.le_of_ble_eq_true rfl, Nat.le_of_ble_eq_true rfl⟩ ⟨Nat.le_refl _, Nat.le_refl _⟩ (rest := []) rfl (Nat.le_of_ble_eq_true rfl) dX7_waits_20 (fun H locs hJ => ?_)
    refine lv_if_ne (tgt := 30) hx hb dX7_waits_23 (by decide) (fun c_23 => ?_) (fun c_23 => ?_)
    · skip
      refine lv_aload_n hx hb dX7_waits_30 rfl (lv_at hl 0 rfl) ?_
      refine lv_iconst (v := 0) hx hb dX7_waits_31 (by decide) ?_
      refine lv_iload_n hx hb dX7_waits_32 rfl (lv_at hl 1 rfl) ?_
      refine lv_iload_n hx hb dX7_waits_33 rfl (lv_at hl 2 rfl) ?_
      refine kX7_50 X hJ (mX7_waiter l E B _ 0 (nn x) y w (by omega) (by omega) hw (hrn)) rfl (by omega) (at_M rfl) hl.1 ⟨Nat.le_of_ble_eq_true rfl, Nat.le_of_ble_eq_true rfl⟩ ⟨Nat.le_refl _, Nat.le_refl _⟩ (rest := []) rfl (Nat.le_of_ble_eq_true rfl) dX7_waits_34 (fun H locs hJ => ?_)
      have hs : sX7_waits w x y = sX7_waiter w (nn x) y := by unfold sX7_waits; rw [if_neg c_5, if_neg c_23]
      exact fin hJ (by rw [hs]) dX7_waits_37
    · skip
      refine lv_iconst (v := (-1)) hx hb dX7_waits_26 (by decide) ?_
      refine lv_goto (tgt := 37) hx hb dX7_waits_27 (by decide) ?_
      have hs : sX7_waits w x y = (-1) := by unfold sX7_waits; rw [if_neg c_5, if_pos c_23]
      exact fin hJ (by rw [hs]) dX7_waits_37

def sX7_next (w : Row) (x : Int32) : Int32 := if sX7_isBridge w x = 0 then ((-1)) else (sX7_comer w (nn x))
set_option maxHeartbeats 4000000 in
set_option maxRecDepth 100000 in
theorem mX7_next (l : Launch) (E : EE) (B : Nat) (g : GS) (x : Int32) (w : Row)  (hw : g.2.2.1 0 = w) (hrn : Rn w) : CG l yX7_next cX7_next 2 (some .int) 4 96 E B [.ref (B + 459), .int x] g (some (.int (sX7_next w x))) g := by
  refine mkI (own := RX7) (ty := .int) rfl (by decide) rfl (rfl) (Nat.le_of_ble_eq_true rfl) (fun P_ e_ s_ m_ a_ below meth cd Q X fin ls hl hJ => ?_)
  have hx := X.1
  have hb := X.2.1
  have hl : lv_has ls 2 [(0, .ref (B + 459)), (1, .int x)] := hl
  refine lv_aload_n hx hb dX7_next_0 rfl (lv_at hl 0 rfl) ?_
  refine lv_iload_n hx hb dX7_next_1 rfl (lv_at hl 1 rfl) ?_
  refine kX7_98 X hJ (mX7_isBridge l E B _ x w hw) rfl (by omega) (at_M rfl) hl.1 ⟨Nat.le_of_ble_eq_true rfl, Nat.le_of_ble_eq_true rfl⟩ ⟨Nat.le_refl _, Nat.le_refl _⟩ (rest := []) rfl (Nat.le_of_ble_eq_true rfl) dX7_next_2 (fun H locs hJ => ?_)
  refine lv_if_eq (tgt := 17) hx hb dX7_next_5 (by decide) (fun c_5 => ?_) (fun c_5 => ?_)
  · skip
    refine lv_iconst (v := (-1)) hx hb dX7_next_17 (by decide) ?_
    have hs : sX7_next w x = (-1) := by unfold sX7_next; rw [if_pos c_5]
    exact fin hJ (by rw [hs]) dX7_next_18
  · skip
    have hB_x := (isBridge_of hrn.1 c_5).2.2
    have hl : lv_has ls 2 [(0, .ref (B + 459)), (1, .int (nI (nn x)))] := by rw [← show x = nI (nn x) from (isBridge_of hrn.1 c_5).1]; exact hl
    refine lv_aload_n hx hb dX7_next_8 rfl (lv_at hl 0 rfl) ?_
    refine lv_iconst (v := 0) hx hb dX7_next_9 (by decide) ?_
    refine lv_iload_n hx hb dX7_next_10 rfl (lv_at hl 1 rfl) ?_
    refine kX7_60 X hJ (mX7_comer l E B _ 0 (nn x) w (by omega) (by omega) hw (hrn)) rfl (by omega) (at_M rfl) hl.1 ⟨Nat.le_of_ble_eq_true rfl, Nat.le_of_ble_eq_true rfl⟩ ⟨Nat.le_refl _, Nat.le_refl _⟩ (rest := []) rfl (Nat.le_of_ble_eq_true rfl) dX7_next_11 (fun H locs hJ => ?_)
    refine lv_goto (tgt := 18) hx hb dX7_next_14 (by decide) ?_
    have hs : sX7_next w x = sX7_comer w (nn x) := by unfold sX7_next; rw [if_neg c_5]
    exact fin hJ (by rw [hs]) dX7_next_18

def sX7_why (w : Row) (x : Int32) : Int32 := if sX7_isCart w x = 0 then ((-1)) else (if w (104 + 8 * (nn x) + 2) = (-6) then (1) else (if sX7_comer w (nn (w (104 + 8 * (nn x) + 2))) = nI (nn x) then (0) else (if sX7_many w (nn (w (104 + 8 * (nn x) + 2))) = 1 then (2) else (if sX7_waiter w (nn (w (104 + 8 * (nn x) + 2))) 0 = nI (nn x) then (if sX7_areAsNear w (nn (w (104 + 8 * (nn x) + 2))) = 0 then (4) else (if sX7_comer w (nn (w (104 + 8 * (nn x) + 2))) = (-6) then (6) else (5))) else (if sX7_waiter w (nn (w (104 + 8 * (nn x) + 2))) 1 = nI (nn x) then (if sX7_areAsNear w (nn (w (104 + 8 * (nn x) + 2))) = 0 then (4) else (if sX7_comer w (nn (w (104 + 8 * (nn x) + 2))) = (-6) then (6) else (5))) else (3))))))
set_option maxHeartbeats 4000000 in
set_option maxRecDepth 100000 in
theorem mX7_why (l : Launch) (E : EE) (B : Nat) (g : GS) (x : Int32) (w : Row)  (hw : g.2.2.1 0 = w) (hrn : Rn w) (hat : Ats w) : CG l yX7_why cX7_why 3 (some .int) 4 96 E B [.ref (B + 459), .int x] g (some (.int (sX7_why w x))) g := by
  refine mkI (own := RX7) (ty := .int) rfl (by decide) rfl (rfl) (Nat.le_of_ble_eq_true rfl) (fun P_ e_ s_ m_ a_ below meth cd Q X fin ls hl hJ => ?_)
  have hx := X.1
  have hb := X.2.1
  have hl : lv_has ls 3 [(0, .ref (B + 459)), (1, .int x)] := hl
  refine lv_aload_n hx hb dX7_why_0 rfl (lv_at hl 0 rfl) ?_
  refine lv_iload_n hx hb dX7_why_1 rfl (lv_at hl 1 rfl) ?_
  refine kX7_95 X hJ (mX7_isCart l E B _ x w hw) rfl (by omega) (at_M rfl) hl.1 ⟨Nat.le_of_ble_eq_true rfl, Nat.le_of_ble_eq_true rfl⟩ ⟨Nat.le_refl _, Nat.le_refl _⟩ (rest := []) rfl (Nat.le_of_ble_eq_true rfl) dX7_why_2 (fun H locs hJ => ?_)
  refine lv_if_ne (tgt := 10) hx hb dX7_why_5 (by decide) (fun c_5 => ?_) (fun c_5 => ?_)
  · skip
    have hC_x := (isCart_of hrn.1 c_5).2.2
    have hl : lv_has ls 3 [(0, .ref (B + 459)), (1, .int (nI (nn x)))] := by rw [← show x = nI (nn x) from (isCart_of hrn.1 c_5).1]; exact hl
    refine lv_aload_n hx hb dX7_why_10 rfl (lv_at hl 0 rfl) ?_
    refine gX7_7 X hJ (w := g.2.2.2) rfl dX7_why_11 ?_
    refine lv_iconst (v := 0) hx hb dX7_why_14 (by decide) ?_
    refine lv_iload_n hx hb dX7_why_15 rfl (lv_at hl 1 rfl) ?_
    refine kX7_40 X hJ (qX7_cartAt l E B _ 0 (nn x)) rfl hl.1 ⟨Nat.le_of_ble_eq_true rfl, Nat.le_of_ble_eq_true rfl⟩ ⟨Nat.le_refl _, Nat.le_refl _⟩ (rest := [.ref (B + 460)]) rfl (Nat.le_of_ble_eq_true rfl) dX7_why_16 (fun H locs hJ => ?_)
    refine lv_iconst (v := 2) hx hb dX7_why_19 (by decide) ?_
    refine xiadd (z := nI (360 * 0 + (104 + 8 * (nn x) + 2))) hx hb dX7_why_20 (nI_a3 0 (104 + 8 * (nn x)) 2) ?_
    refine ld_s X hJ (t := 0) (w := w) (by omega) hw (j := 104 + 8 * (nn x) + 2) (rfl) (by omega) dX7_why_21 ?_
    refine lv_istore_n (lv' := [(2, .int (w (104 + 8 * (nn x) + 2))), (0, .ref (B + 459)), (1, .int (nI (nn x)))]) hx hb dX7_why_22 rfl hl (by decide) rfl (fun ls hl => ?_)
    refine lv_iload_n hx hb dX7_why_23 rfl (lv_at hl 0 rfl) ?_
    refine lv_bipush (v := (-6)) hx hb dX7_why_24 (by decide) ?_
    refine lv_icmp_ne (tgt := 31) hx hb dX7_why_26 (by decide) (fun c_26 => ?_) (fun c_26 => ?_)
    · skip
      have hA := ((hat _ hC_x).resolve_left c_26).le
      have hl : lv_has ls 3 [(2, .int (nI (nn (w (104 + 8 * (nn x) + 2))))), (0, .ref (B + 459)), (1, .int (nI (nn x)))] := by rw [← show w (104 + 8 * (nn x) + 2) = nI (nn (w (104 + 8 * (nn x) + 2))) from ((hat _ hC_x).resolve_left c_26).eq]; exact hl
      refine lv_aload_n hx hb dX7_why_31 rfl (lv_at hl 1 rfl) ?_
      refine lv_iconst (v := 0) hx hb dX7_why_32 (by decide) ?_
      refine lv_iload_n hx hb dX7_why_33 rfl (lv_at hl 0 rfl) ?_
      refine kX7_60 X hJ (mX7_comer l E B _ 0 (nn (w (104 + 8 * (nn x) + 2))) w (by omega) (by omega) hw (hrn)) rfl (by omega) (at_M rfl) hl.1 ⟨Nat.le_of_ble_eq_true rfl, Nat.le_of_ble_eq_true rfl⟩ ⟨Nat.le_refl _, Nat.le_refl _⟩ (rest := []) rfl (Nat.le_of_ble_eq_true rfl) dX7_why_34 (fun H locs hJ => ?_)
      refine lv_iload_n hx hb dX7_why_37 rfl (lv_at hl 2 rfl) ?_
      refine lv_icmp_ne (tgt := 43) hx hb dX7_why_38 (by decide) (fun c_38 => ?_) (fun c_38 => ?_)
      · skip
        refine lv_aload_n hx hb dX7_why_43 rfl (lv_at hl 1 rfl) ?_
        refine lv_iconst (v := 0) hx hb dX7_why_44 (by decide) ?_
        refine lv_iload_n hx hb dX7_why_45 rfl (lv_at hl 0 rfl) ?_
        refine kX7_47 X hJ (mX7_many l E B _ 0 (nn (w (104 + 8 * (nn x) + 2))) w (by omega) (by omega) hw (hrn)) rfl (by omega) (at_M rfl) hl.1 ⟨Nat.le_of_ble_eq_true rfl, Nat.le_of_ble_eq_true rfl⟩ ⟨Nat.le_refl _, Nat.le_refl _⟩ (rest := []) rfl (Nat.le_of_ble_eq_true rfl) dX7_why_46 (fun H locs hJ => ?_)
        refine lv_iconst (v := 1) hx hb dX7_why_49 (by decide) ?_
        refine lv_icmp_ne (tgt := 55) hx hb dX7_why_50 (by decide) (fun c_50 => ?_) (fun c_50 => ?_)
        · skip
          refine lv_aload_n hx hb dX7_why_55 rfl (lv_at hl 1 rfl) ?_
          refine lv_iconst (v := 0) hx hb dX7_why_56 (by decide) ?_
          refine lv_iload_n hx hb dX7_why_57 rfl (lv_at hl 0 rfl) ?_
          refine lv_iconst (v := 0) hx hb dX7_why_58 (by decide) ?_
          refine kX7_50 X hJ (mX7_waiter l E B _ 0 (nn (w (104 + 8 * (nn x) + 2))) 0 w (by omega) (by omega) hw (hrn)) rfl (by omega) (at_M rfl) hl.1 ⟨Nat.le_of_ble_eq_true rfl, Nat.le_of_ble_eq_true rfl⟩ ⟨Nat.le_refl _, Nat.le_refl _⟩ (rest := []) rfl (Nat.le_of_ble_eq_true rfl) dX7_why_59 (fun H locs hJ => ?_)
          refine lv_iload_n hx hb dX7_why_62 rfl (lv_at hl 2 rfl) ?_
          refine lv_icmp_eq (tgt := 79) hx hb dX7_why_63 (by decide) (fun c_63 => ?_) (fun c_63 => ?_)
          · skip
            refine lv_aload_n hx hb dX7_why_79 rfl (lv_at hl 1 rfl) ?_
            refine lv_iconst (v := 0) hx hb dX7_why_80 (by decide) ?_
            refine lv_iload_n hx hb dX7_why_81 rfl (lv_at hl 0 rfl) ?_
            refine kX7_56 X hJ (mX7_areAsNear l E B _ 0 (nn (w (104 + 8 * (nn x) + 2))) w (by omega) (by omega) hw (hrn)) rfl (by omega) (at_M rfl) hl.1 ⟨Nat.le_of_ble_eq_true rfl, Nat.le_of_ble_eq_true rfl⟩ ⟨Nat.le_refl _, Nat.le_refl _⟩ (rest := []) rfl (Nat.le_of_ble_eq_true rfl) dX7_why_82 (fun H locs hJ => ?_)
            refine lv_if_ne (tgt := 92) hx hb dX7_why_85 (by decide) (fun c_85 => ?_) (fun c_85 => ?_)
            · skip
              refine lv_aload_n hx hb dX7_why_92 rfl (lv_at hl 1 rfl) ?_
              refine lv_iconst (v := 0) hx hb dX7_why_93 (by decide) ?_
              refine lv_iload_n hx hb dX7_why_94 rfl (lv_at hl 0 rfl) ?_
              refine kX7_60 X hJ (mX7_comer l E B _ 0 (nn (w (104 + 8 * (nn x) + 2))) w (by omega) (by omega) hw (hrn)) rfl (by omega) (at_M rfl) hl.1 ⟨Nat.le_of_ble_eq_true rfl, Nat.le_of_ble_eq_true rfl⟩ ⟨Nat.le_refl _, Nat.le_refl _⟩ (rest := []) rfl (Nat.le_of_ble_eq_true rfl) dX7_why_95 (fun H locs hJ => ?_)
              refine lv_bipush (v := (-6)) hx hb dX7_why_98 (by decide) ?_
              refine lv_icmp_ne (tgt := 108) hx hb dX7_why_100 (by decide) (fun c_100 => ?_) (fun c_100 => ?_)
              · skip
                refine lv_iconst (v := 5) hx hb dX7_why_108 (by decide) ?_
                have hs : sX7_why w x = 5 := by unfold sX7_why; rw [if_neg c_5, if_neg c_26, if_neg c_38, if_neg c_50, if_pos c_63, if_neg c_85, if_neg c_100]
                exact fin hJ (by rw [hs]) dX7_why_109
              · skip
                refine lv_bipush (v := 6) hx hb dX7_why_103 (by decide) ?_
                refine lv_goto (tgt := 109) hx hb dX7_why_105 (by decide) ?_
                have hs : sX7_why w x = 6 := by unfold sX7_why; rw [if_neg c_5, if_neg c_26, if_neg c_38, if_neg c_50, if_pos c_63, if_neg c_85, if_pos c_100]
                exact fin hJ (by rw [hs]) dX7_why_109
            · skip
              refine lv_iconst (v := 4) hx hb dX7_why_88 (by decide) ?_
              refine lv_goto (tgt := 109) hx hb dX7_why_89 (by decide) ?_
              have hs : sX7_why w x = 4 := by unfold sX7_why; rw [if_neg c_5, if_neg c_26, if_neg c_38, if_neg c_50, if_pos c_63, if_pos c_85]
              exact fin hJ (by rw [hs]) dX7_why_109
          · skip
            refine lv_aload_n hx hb dX7_why_66 rfl (lv_at hl 1 rfl) ?_
            refine lv_iconst (v := 0) hx hb dX7_why_67 (by decide) ?_
            refine lv_iload_n hx hb dX7_why_68 rfl (lv_at hl 0 rfl) ?_
            refine lv_iconst (v := 1) hx hb dX7_why_69 (by decide) ?_
            refine kX7_50 X hJ (mX7_waiter l E B _ 0 (nn (w (104 + 8 * (nn x) + 2))) 1 w (by omega) (by omega) hw (hrn)) rfl (by omega) (at_M rfl) hl.1 ⟨Nat.le_of_ble_eq_true rfl, Nat.le_of_ble_eq_true rfl⟩ ⟨Nat.le_refl _, Nat.le_refl _⟩ (rest := []) rfl (Nat.le_of_ble_eq_true rfl) dX7_why_70 (fun H locs hJ => ?_)
            refine lv_iload_n hx hb dX7_why_73 rfl (lv_at hl 2 rfl) ?_
            refine lv_icmp_eq (tgt := 79) hx hb dX7_why_74 (by decide) (fun c_74 => ?_) (fun c_74 => ?_)
            · skip
              refine lv_aload_n hx hb dX7_why_79 rfl (lv_at hl 1 rfl) ?_
              refine lv_iconst (v := 0) hx hb dX7_why_80 (by decide) ?_
              refine lv_iload_n hx hb dX7_why_81 rfl (lv_at hl 0 rfl) ?_
              refine kX7_56 X hJ (mX7_areAsNear l E B _ 0 (nn (w (104 + 8 * (nn x) + 2))) w (by omega) (by omega) hw (hrn)) rfl (by omega) (at_M rfl) hl.1 ⟨Nat.le_of_ble_eq_true rfl, Nat.le_of_ble_eq_true rfl⟩ ⟨Nat.le_refl _, Nat.le_refl _⟩ (rest := []) rfl (Nat.le_of_ble_eq_true rfl) dX7_why_82 (fun H locs hJ => ?_)
              refine lv_if_ne (tgt := 92) hx hb dX7_why_85 (by decide) (fun c_85 => ?_) (fun c_85 => ?_)
              · skip
                refine lv_aload_n hx hb dX7_why_92 rfl (lv_at hl 1 rfl) ?_
                refine lv_iconst (v := 0) hx hb dX7_why_93 (by decide) ?_
                refine lv_iload_n hx hb dX7_why_94 rfl (lv_at hl 0 rfl) ?_
                refine kX7_60 X hJ (mX7_comer l E B _ 0 (nn (w (104 + 8 * (nn x) + 2))) w (by omega) (by omega) hw (hrn)) rfl (by omega) (at_M rfl) hl.1 ⟨Nat.le_of_ble_eq_true rfl, Nat.le_of_ble_eq_true rfl⟩ ⟨Nat.le_refl _, Nat.le_refl _⟩ (rest := []) rfl (Nat.le_of_ble_eq_true rfl) dX7_why_95 (fun H locs hJ => ?_)
                refine lv_bipush (v := (-6)) hx hb dX7_why_98 (by decide) ?_
                refine lv_icmp_ne (tgt := 108) hx hb dX7_why_100 (by decide) (fun c_100 => ?_) (fun c_100 => ?_)
                · skip
                  refine lv_iconst (v := 5) hx hb dX7_why_108 (by decide) ?_
                  have hs : sX7_why w x = 5 := by unfold sX7_why; rw [if_neg c_5, if_neg c_26, if_neg c_38, if_neg c_50, if_neg c_63, if_pos c_74, if_neg c_85, if_neg c_100]
                  exact fin hJ (by rw [hs]) dX7_why_109
                · skip
                  refine lv_bipush (v := 6) hx hb dX7_why_103 (by decide) ?_
                  refine lv_goto (tgt := 109) hx hb dX7_why_105 (by decide) ?_
                  have hs : sX7_why w x = 6 := by unfold sX7_why; rw [if_neg c_5, if_neg c_26, if_neg c_38, if_neg c_50, if_neg c_63, if_pos c_74, if_neg c_85, if_pos c_100]
                  exact fin hJ (by rw [hs]) dX7_why_109
              · skip
                refine lv_iconst (v := 4) hx hb dX7_why_88 (by decide) ?_
                refine lv_goto (tgt := 109) hx hb dX7_why_89 (by decide) ?_
                have hs : sX7_why w x = 4 := by unfold sX7_why; rw [if_neg c_5, if_neg c_26, if_neg c_38, if_neg c_50, if_neg c_63, if_pos c_74, if_pos c_85]
                exact fin hJ (by rw [hs]) dX7_why_109
            · skip
              refine lv_iconst (v := 3) hx hb dX7_why_77 (by decide) ?_
              have hs : sX7_why w x = 3 := by unfold sX7_why; rw [if_neg c_5, if_neg c_26, if_neg c_38, if_neg c_50, if_neg c_63, if_neg c_74]
              exact fin hJ (by rw [hs]) dX7_why_78
        · skip
          refine lv_iconst (v := 2) hx hb dX7_why_53 (by decide) ?_
          have hs : sX7_why w x = 2 := by unfold sX7_why; rw [if_neg c_5, if_neg c_26, if_neg c_38, if_pos c_50]
          exact fin hJ (by rw [hs]) dX7_why_54
      · skip
        refine lv_iconst (v := 0) hx hb dX7_why_41 (by decide) ?_
        have hs : sX7_why w x = 0 := by unfold sX7_why; rw [if_neg c_5, if_neg c_26, if_pos c_38]
        exact fin hJ (by rw [hs]) dX7_why_42
    · skip
      refine lv_iconst (v := 1) hx hb dX7_why_29 (by decide) ?_
      have hs : sX7_why w x = 1 := by unfold sX7_why; rw [if_neg c_5, if_pos c_26]
      exact fin hJ (by rw [hs]) dX7_why_30
  · skip
    refine lv_iconst (v := (-1)) hx hb dX7_why_8 (by decide) ?_
    have hs : sX7_why w x = (-1) := by unfold sX7_why; rw [if_pos c_5]
    exact fin hJ (by rw [hs]) dX7_why_9

def sX7_count (g : GS) (x : Int32) : Int32 := if x = 0 then ((g.2.2.1 0) (4)) else if x = 1 then ((g.2.2.1 0) (5)) else if x = 2 then ((g.2.2.1 0) (6)) else if x = 3 then (sX7_waitingSet (g.2.2.1 0)) else if x = 4 then (sX7_ofCarts (g.2.2.1 0) 5) else if x = 5 then (sX7_ofCarts (g.2.2.1 0) 1) else if x = 6 then (sX7_inTills (g.2.2.1 0)) else if x = 7 then ((g.2.2.1 0) (8)) else if x = 8 then ((g.2.2.1 0) (9)) else if x = 9 then ((g.2.2.1 0) (nn (x - 9))) else if x = 10 then ((g.2.2.1 0) (nn (x - 9))) else if x = 11 then ((g.2.2.1 0) (nn (x - 9))) else if x = 12 then ((g.2.2.1 0) (nn (x - 9))) else if x = 13 then (g.2.2.2 1) else if x = 14 then (g.2.2.2 0) else ((-2))
set_option maxHeartbeats 4000000 in
set_option maxRecDepth 100000 in
theorem mX7_count (l : Launch) (E : EE) (B : Nat) (g : GS) (x : Int32) (hgm : Gm g) : CG l yX7_count cX7_count 2 (some .int) 2 45 E B [.ref (B + 459), .int x] g (some (.int (sX7_count g x))) g := by
  refine mkI (own := RX7) (ty := .int) rfl (by decide) rfl (rfl) (Nat.le_of_ble_eq_true rfl) (fun P_ e_ s_ m_ a_ below meth cd Q X fin ls hl hJ => ?_)
  have hx := X.1
  have hb := X.2.1
  have hl : lv_has ls 2 [(0, .ref (B + 459)), (1, .int x)] := hl
  refine lv_iload_n hx hb dX7_count_0 rfl (lv_at hl 1 rfl) ?_
  by_cases c_1_0 : x = 0
  · rw [c_1_0]
    refine lv_tableIn (tgt := 76) hx hb dX7_count_1 (by decide) (by decide) (off := 75) (by decide) (by decide) ?_
    refine lv_aload_n hx hb dX7_count_76 rfl (lv_at hl 0 rfl) ?_
    refine gX7_7 X hJ (w := g.2.2.2) rfl dX7_count_77 ?_
    refine lv_iconst (v := 4) hx hb dX7_count_80 (by decide) ?_
    refine ld_s X hJ (t := 0) (w := g.2.2.1 0) (by omega) rfl (j := 4) (by decide) (by omega) dX7_count_81 ?_
    have hs : sX7_count g x = (g.2.2.1 0) (4) := by unfold sX7_count; rw [if_pos c_1_0]
    exact fin hJ (by rw [hs]) dX7_count_82
  by_cases c_1_1 : x = 1
  · rw [c_1_1]
    refine lv_tableIn (tgt := 83) hx hb dX7_count_1 (by decide) (by decide) (off := 82) (by decide) (by decide) ?_
    refine lv_aload_n hx hb dX7_count_83 rfl (lv_at hl 0 rfl) ?_
    refine gX7_7 X hJ (w := g.2.2.2) rfl dX7_count_84 ?_
    refine lv_iconst (v := 5) hx hb dX7_count_87 (by decide) ?_
    refine ld_s X hJ (t := 0) (w := g.2.2.1 0) (by omega) rfl (j := 5) (by decide) (by omega) dX7_count_88 ?_
    have hs : sX7_count g x = (g.2.2.1 0) (5) := by unfold sX7_count; rw [if_neg c_1_0, if_pos c_1_1]
    exact fin hJ (by rw [hs]) dX7_count_89
  by_cases c_1_2 : x = 2
  · rw [c_1_2]
    refine lv_tableIn (tgt := 90) hx hb dX7_count_1 (by decide) (by decide) (off := 89) (by decide) (by decide) ?_
    refine lv_aload_n hx hb dX7_count_90 rfl (lv_at hl 0 rfl) ?_
    refine gX7_7 X hJ (w := g.2.2.2) rfl dX7_count_91 ?_
    refine lv_bipush (v := 6) hx hb dX7_count_94 (by decide) ?_
    refine ld_s X hJ (t := 0) (w := g.2.2.1 0) (by omega) rfl (j := 6) (by decide) (by omega) dX7_count_96 ?_
    have hs : sX7_count g x = (g.2.2.1 0) (6) := by unfold sX7_count; rw [if_neg c_1_0, if_neg c_1_1, if_pos c_1_2]
    exact fin hJ (by rw [hs]) dX7_count_97
  by_cases c_1_3 : x = 3
  · rw [c_1_3]
    refine lv_tableIn (tgt := 98) hx hb dX7_count_1 (by decide) (by decide) (off := 97) (by decide) (by decide) ?_
    refine lv_aload_n hx hb dX7_count_98 rfl (lv_at hl 0 rfl) ?_
    refine lv_iconst (v := 0) hx hb dX7_count_99 (by decide) ?_
    refine kX7_167 X hJ (mX7_waitingSet l E B _ 0 (g.2.2.1 0) (by omega) rfl ((hgm).1 0 (by omega))) rfl (by omega) (at_M rfl) hl.1 ⟨Nat.le_of_ble_eq_true rfl, Nat.le_of_ble_eq_true rfl⟩ ⟨Nat.le_refl _, Nat.le_refl _⟩ (rest := []) rfl (Nat.le_of_ble_eq_true rfl) dX7_count_100 (fun H locs hJ => ?_)
    have hs : sX7_count g x = sX7_waitingSet (g.2.2.1 0) := by unfold sX7_count; rw [if_neg c_1_0, if_neg c_1_1, if_neg c_1_2, if_pos c_1_3]
    exact fin hJ (by rw [hs]) dX7_count_103
  by_cases c_1_4 : x = 4
  · rw [c_1_4]
    refine lv_tableIn (tgt := 104) hx hb dX7_count_1 (by decide) (by decide) (off := 103) (by decide) (by decide) ?_
    refine lv_aload_n hx hb dX7_count_104 rfl (lv_at hl 0 rfl) ?_
    refine lv_iconst (v := 0) hx hb dX7_count_105 (by decide) ?_
    refine lv_iconst (v := 5) hx hb dX7_count_106 (by decide) ?_
    refine kX7_170 X hJ (mX7_ofCarts l E B _ 0 5 (g.2.2.1 0) (by omega) rfl ((hgm).1 0 (by omega)) (by omega)) rfl (by omega) (at_M rfl) hl.1 ⟨Nat.le_of_ble_eq_true rfl, Nat.le_of_ble_eq_true rfl⟩ ⟨Nat.le_refl _, Nat.le_refl _⟩ (rest := []) rfl (Nat.le_of_ble_eq_true rfl) dX7_count_107 (fun H locs hJ => ?_)
    have hs : sX7_count g x = sX7_ofCarts (g.2.2.1 0) 5 := by unfold sX7_count; rw [if_neg c_1_0, if_neg c_1_1, if_neg c_1_2, if_neg c_1_3, if_pos c_1_4]
    exact fin hJ (by rw [hs]) dX7_count_110
  by_cases c_1_5 : x = 5
  · rw [c_1_5]
    refine lv_tableIn (tgt := 111) hx hb dX7_count_1 (by decide) (by decide) (off := 110) (by decide) (by decide) ?_
    refine lv_aload_n hx hb dX7_count_111 rfl (lv_at hl 0 rfl) ?_
    refine lv_iconst (v := 0) hx hb dX7_count_112 (by decide) ?_
    refine lv_iconst (v := 1) hx hb dX7_count_113 (by decide) ?_
    refine kX7_170 X hJ (mX7_ofCarts l E B _ 0 1 (g.2.2.1 0) (by omega) rfl ((hgm).1 0 (by omega)) (by omega)) rfl (by omega) (at_M rfl) hl.1 ⟨Nat.le_of_ble_eq_true rfl, Nat.le_of_ble_eq_true rfl⟩ ⟨Nat.le_refl _, Nat.le_refl _⟩ (rest := []) rfl (Nat.le_of_ble_eq_true rfl) dX7_count_114 (fun H locs hJ => ?_)
    have hs : sX7_count g x = sX7_ofCarts (g.2.2.1 0) 1 := by unfold sX7_count; rw [if_neg c_1_0, if_neg c_1_1, if_neg c_1_2, if_neg c_1_3, if_neg c_1_4, if_pos c_1_5]
    exact fin hJ (by rw [hs]) dX7_count_117
  by_cases c_1_6 : x = 6
  · rw [c_1_6]
    refine lv_tableIn (tgt := 118) hx hb dX7_count_1 (by decide) (by decide) (off := 117) (by decide) (by decide) ?_
    refine lv_aload_n hx hb dX7_count_118 rfl (lv_at hl 0 rfl) ?_
    refine kX7_173 X hJ (mX7_inTills l E B _ (g.2.2.1 0) rfl ((hgm).1 0 (by omega))) rfl (by omega) (at_M rfl) hl.1 ⟨Nat.le_of_ble_eq_true rfl, Nat.le_of_ble_eq_true rfl⟩ ⟨Nat.le_refl _, Nat.le_refl _⟩ (rest := []) rfl (Nat.le_of_ble_eq_true rfl) dX7_count_119 (fun H locs hJ => ?_)
    have hs : sX7_count g x = sX7_inTills (g.2.2.1 0) := by unfold sX7_count; rw [if_neg c_1_0, if_neg c_1_1, if_neg c_1_2, if_neg c_1_3, if_neg c_1_4, if_neg c_1_5, if_pos c_1_6]
    exact fin hJ (by rw [hs]) dX7_count_122
  by_cases c_1_7 : x = 7
  · rw [c_1_7]
    refine lv_tableIn (tgt := 123) hx hb dX7_count_1 (by decide) (by decide) (off := 122) (by decide) (by decide) ?_
    refine lv_aload_n hx hb dX7_count_123 rfl (lv_at hl 0 rfl) ?_
    refine gX7_7 X hJ (w := g.2.2.2) rfl dX7_count_124 ?_
    refine lv_bipush (v := 8) hx hb dX7_count_127 (by decide) ?_
    refine ld_s X hJ (t := 0) (w := g.2.2.1 0) (by omega) rfl (j := 8) (by decide) (by omega) dX7_count_129 ?_
    have hs : sX7_count g x = (g.2.2.1 0) (8) := by unfold sX7_count; rw [if_neg c_1_0, if_neg c_1_1, if_neg c_1_2, if_neg c_1_3, if_neg c_1_4, if_neg c_1_5, if_neg c_1_6, if_pos c_1_7]
    exact fin hJ (by rw [hs]) dX7_count_130
  by_cases c_1_8 : x = 8
  · rw [c_1_8]
    refine lv_tableIn (tgt := 131) hx hb dX7_count_1 (by decide) (by decide) (off := 130) (by decide) (by decide) ?_
    refine lv_aload_n hx hb dX7_count_131 rfl (lv_at hl 0 rfl) ?_
    refine gX7_7 X hJ (w := g.2.2.2) rfl dX7_count_132 ?_
    refine lv_bipush (v := 9) hx hb dX7_count_135 (by decide) ?_
    refine ld_s X hJ (t := 0) (w := g.2.2.1 0) (by omega) rfl (j := 9) (by decide) (by omega) dX7_count_137 ?_
    have hs : sX7_count g x = (g.2.2.1 0) (9) := by unfold sX7_count; rw [if_neg c_1_0, if_neg c_1_1, if_neg c_1_2, if_neg c_1_3, if_neg c_1_4, if_neg c_1_5, if_neg c_1_6, if_neg c_1_7, if_pos c_1_8]
    exact fin hJ (by rw [hs]) dX7_count_138
  by_cases c_1_9 : x = 9
  · rw [c_1_9]
    refine lv_tableIn (tgt := 139) hx hb dX7_count_1 (by decide) (by decide) (off := 138) (by decide) (by decide) ?_
    refine lv_aload_n hx hb dX7_count_139 rfl (lv_at hl 0 rfl) ?_
    refine gX7_7 X hJ (w := g.2.2.2) rfl dX7_count_140 ?_
    refine lv_iload_n hx hb dX7_count_143 rfl (lv_at hl 1 rfl) ?_
    refine lv_bipush (v := 9) hx hb dX7_count_144 (by decide) ?_
    refine lv_isub hx hb dX7_count_146 ?_
    refine cvt (y := nI (nn (x - 9))) (by first | (rw [c_1_9]; decide) | (rw [c_1_10]; decide) | (rw [c_1_11]; decide) | (rw [c_1_12]; decide)) ?_
    have hx9 : nn (x - 9) < 4 := by first | (rw [c_1_9]; decide) | (rw [c_1_10]; decide) | (rw [c_1_11]; decide) | (rw [c_1_12]; decide)
    refine ld_s X hJ (t := 0) (w := g.2.2.1 0) (by omega) rfl (j := nn (x - 9)) (congrArg nI (by omega)) (by omega) dX7_count_147 ?_
    have hs : sX7_count g x = (g.2.2.1 0) (nn (x - 9)) := by unfold sX7_count; rw [if_neg c_1_0, if_neg c_1_1, if_neg c_1_2, if_neg c_1_3, if_neg c_1_4, if_neg c_1_5, if_neg c_1_6, if_neg c_1_7, if_neg c_1_8, if_pos c_1_9]
    exact fin hJ (by rw [hs]) dX7_count_148
  by_cases c_1_10 : x = 10
  · rw [c_1_10]
    refine lv_tableIn (tgt := 139) hx hb dX7_count_1 (by decide) (by decide) (off := 138) (by decide) (by decide) ?_
    refine lv_aload_n hx hb dX7_count_139 rfl (lv_at hl 0 rfl) ?_
    refine gX7_7 X hJ (w := g.2.2.2) rfl dX7_count_140 ?_
    refine lv_iload_n hx hb dX7_count_143 rfl (lv_at hl 1 rfl) ?_
    refine lv_bipush (v := 9) hx hb dX7_count_144 (by decide) ?_
    refine lv_isub hx hb dX7_count_146 ?_
    refine cvt (y := nI (nn (x - 9))) (by first | (rw [c_1_9]; decide) | (rw [c_1_10]; decide) | (rw [c_1_11]; decide) | (rw [c_1_12]; decide)) ?_
    have hx9 : nn (x - 9) < 4 := by first | (rw [c_1_9]; decide) | (rw [c_1_10]; decide) | (rw [c_1_11]; decide) | (rw [c_1_12]; decide)
    refine ld_s X hJ (t := 0) (w := g.2.2.1 0) (by omega) rfl (j := nn (x - 9)) (congrArg nI (by omega)) (by omega) dX7_count_147 ?_
    have hs : sX7_count g x = (g.2.2.1 0) (nn (x - 9)) := by unfold sX7_count; rw [if_neg c_1_0, if_neg c_1_1, if_neg c_1_2, if_neg c_1_3, if_neg c_1_4, if_neg c_1_5, if_neg c_1_6, if_neg c_1_7, if_neg c_1_8, if_neg c_1_9, if_pos c_1_10]
    exact fin hJ (by rw [hs]) dX7_count_148
  by_cases c_1_11 : x = 11
  · rw [c_1_11]
    refine lv_tableIn (tgt := 139) hx hb dX7_count_1 (by decide) (by decide) (off := 138) (by decide) (by decide) ?_
    refine lv_aload_n hx hb dX7_count_139 rfl (lv_at hl 0 rfl) ?_
    refine gX7_7 X hJ (w := g.2.2.2) rfl dX7_count_140 ?_
    refine lv_iload_n hx hb dX7_count_143 rfl (lv_at hl 1 rfl) ?_
    refine lv_bipush (v := 9) hx hb dX7_count_144 (by decide) ?_
    refine lv_isub hx hb dX7_count_146 ?_
    refine cvt (y := nI (nn (x - 9))) (by first | (rw [c_1_9]; decide) | (rw [c_1_10]; decide) | (rw [c_1_11]; decide) | (rw [c_1_12]; decide)) ?_
    have hx9 : nn (x - 9) < 4 := by first | (rw [c_1_9]; decide) | (rw [c_1_10]; decide) | (rw [c_1_11]; decide) | (rw [c_1_12]; decide)
    refine ld_s X hJ (t := 0) (w := g.2.2.1 0) (by omega) rfl (j := nn (x - 9)) (congrArg nI (by omega)) (by omega) dX7_count_147 ?_
    have hs : sX7_count g x = (g.2.2.1 0) (nn (x - 9)) := by unfold sX7_count; rw [if_neg c_1_0, if_neg c_1_1, if_neg c_1_2, if_neg c_1_3, if_neg c_1_4, if_neg c_1_5, if_neg c_1_6, if_neg c_1_7, if_neg c_1_8, if_neg c_1_9, if_neg c_1_10, if_pos c_1_11]
    exact fin hJ (by rw [hs]) dX7_count_148
  by_cases c_1_12 : x = 12
  · rw [c_1_12]
    refine lv_tableIn (tgt := 139) hx hb dX7_count_1 (by decide) (by decide) (off := 138) (by decide) (by decide) ?_
    refine lv_aload_n hx hb dX7_count_139 rfl (lv_at hl 0 rfl) ?_
    refine gX7_7 X hJ (w := g.2.2.2) rfl dX7_count_140 ?_
    refine lv_iload_n hx hb dX7_count_143 rfl (lv_at hl 1 rfl) ?_
    refine lv_bipush (v := 9) hx hb dX7_count_144 (by decide) ?_
    refine lv_isub hx hb dX7_count_146 ?_
    refine cvt (y := nI (nn (x - 9))) (by first | (rw [c_1_9]; decide) | (rw [c_1_10]; decide) | (rw [c_1_11]; decide) | (rw [c_1_12]; decide)) ?_
    have hx9 : nn (x - 9) < 4 := by first | (rw [c_1_9]; decide) | (rw [c_1_10]; decide) | (rw [c_1_11]; decide) | (rw [c_1_12]; decide)
    refine ld_s X hJ (t := 0) (w := g.2.2.1 0) (by omega) rfl (j := nn (x - 9)) (congrArg nI (by omega)) (by omega) dX7_count_147 ?_
    have hs : sX7_count g x = (g.2.2.1 0) (nn (x - 9)) := by unfold sX7_count; rw [if_neg c_1_0, if_neg c_1_1, if_neg c_1_2, if_neg c_1_3, if_neg c_1_4, if_neg c_1_5, if_neg c_1_6, if_neg c_1_7, if_neg c_1_8, if_neg c_1_9, if_neg c_1_10, if_neg c_1_11, if_pos c_1_12]
    exact fin hJ (by rw [hs]) dX7_count_148
  by_cases c_1_13 : x = 13
  · rw [c_1_13]
    refine lv_tableIn (tgt := 149) hx hb dX7_count_1 (by decide) (by decide) (off := 148) (by decide) (by decide) ?_
    refine lv_aload_n hx hb dX7_count_149 rfl (lv_at hl 0 rfl) ?_
    refine gX7_156 X hJ (w := g.2.2.2) rfl dX7_count_150 ?_
    have hs : sX7_count g x = g.2.2.2 1 := by unfold sX7_count; rw [if_neg c_1_0, if_neg c_1_1, if_neg c_1_2, if_neg c_1_3, if_neg c_1_4, if_neg c_1_5, if_neg c_1_6, if_neg c_1_7, if_neg c_1_8, if_neg c_1_9, if_neg c_1_10, if_neg c_1_11, if_neg c_1_12, if_pos c_1_13]
    exact fin hJ (by rw [hs]) dX7_count_153
  by_cases c_1_14 : x = 14
  · rw [c_1_14]
    refine lv_tableIn (tgt := 154) hx hb dX7_count_1 (by decide) (by decide) (off := 153) (by decide) (by decide) ?_
    refine lv_aload_n hx hb dX7_count_154 rfl (lv_at hl 0 rfl) ?_
    refine gX7_23 X hJ (w := g.2.2.2) rfl dX7_count_155 ?_
    have hs : sX7_count g x = g.2.2.2 0 := by unfold sX7_count; rw [if_neg c_1_0, if_neg c_1_1, if_neg c_1_2, if_neg c_1_3, if_neg c_1_4, if_neg c_1_5, if_neg c_1_6, if_neg c_1_7, if_neg c_1_8, if_neg c_1_9, if_neg c_1_10, if_neg c_1_11, if_neg c_1_12, if_neg c_1_13, if_pos c_1_14]
    exact fin hJ (by rw [hs]) dX7_count_158
  refine rtabOut (tgt := 159) hx hb dX7_count_1 (by decide) (fun h1 h2 => ?_) ?_
  · exfalso; have e0 := ne_toInt (n := 0) c_1_0 (by decide); have e1 := ne_toInt (n := 1) c_1_1 (by decide); have e2 := ne_toInt (n := 2) c_1_2 (by decide); have e3 := ne_toInt (n := 3) c_1_3 (by decide); have e4 := ne_toInt (n := 4) c_1_4 (by decide); have e5 := ne_toInt (n := 5) c_1_5 (by decide); have e6 := ne_toInt (n := 6) c_1_6 (by decide); have e7 := ne_toInt (n := 7) c_1_7 (by decide); have e8 := ne_toInt (n := 8) c_1_8 (by decide); have e9 := ne_toInt (n := 9) c_1_9 (by decide); have e10 := ne_toInt (n := 10) c_1_10 (by decide); have e11 := ne_toInt (n := 11) c_1_11 (by decide); have e12 := ne_toInt (n := 12) c_1_12 (by decide); have e13 := ne_toInt (n := 13) c_1_13 (by decide); have e14 := ne_toInt (n := 14) c_1_14 (by decide); omega
  refine lv_bipush (v := (-2)) hx hb dX7_count_159 (by decide) ?_
  have hs : sX7_count g x = (-2) := by unfold sX7_count; rw [if_neg c_1_0, if_neg c_1_1, if_neg c_1_2, if_neg c_1_3, if_neg c_1_4, if_neg c_1_5, if_neg c_1_6, if_neg c_1_7, if_neg c_1_8, if_neg c_1_9, if_neg c_1_10, if_neg c_1_11, if_neg c_1_12, if_neg c_1_13, if_neg c_1_14]
  exact fin hJ (by rw [hs]) dX7_count_161

