theorem in_iff {x y z : Int64} : ¬ sX7_in x y z = 0 ↔ y.toInt ≤ x.toInt ∧ x.toInt ≤ z.toInt := by
  unfold sX7_in
  by_cases h1 : lg_cmp x y < 0
  · rw [if_pos h1]
    rw [lg_cmp_lt, Int64.lt_iff_toInt_lt] at h1
    exact ⟨fun q => absurd rfl q, fun q => by omega⟩
  rw [if_neg h1]
  rw [lg_cmp_lt, Int64.lt_iff_toInt_lt] at h1
  by_cases h2 : 0 < lg_cmp x z
  · rw [if_pos h2]
    rw [lg_cmp_gt, Int64.lt_iff_toInt_lt] at h2
    exact ⟨fun q => absurd rfl q, fun q => by omega⟩
  rw [if_neg h2]
  rw [lg_cmp_gt, Int64.lt_iff_toInt_lt] at h2
  exact ⟨fun _ => by omega, fun _ => by decide⟩
theorem in_32 {x : Int32} {y z : Int64} : ¬ sX7_in x.toInt64 y z = 0 ↔ y.toInt ≤ x.toInt ∧ x.toInt ≤ z.toInt := by
  rw [in_iff, Int32.toInt_toInt64]
theorem pm1 {v : Int32} {n : Nat} (h : sm v n) : (v - 1).toInt = v.toInt - 1 := by
  have := h.1
  have := v.toInt_lt
  rw [Int32.toInt_sub, show (1 : Int32).toInt = 1 from by decide]
  rw [Int.bmod_eq_of_le (by omega) (by omega)]
theorem in_cnt {x v : Int32} {n : Nat} (h : sm v n) : ¬ sX7_in x.toInt64 0 (v - 1).toInt64 = 0 ↔ 0 ≤ x.toInt ∧ x.toInt < v.toInt := by
  rw [in_32, Int32.toInt_toInt64, pm1 h, show (0 : Int64).toInt = 0 from by decide]
  omega
theorem sm_of {x v : Int32} {n : Nat} (h : sm v n) (h0 : 0 ≤ x.toInt) (h1 : x.toInt < v.toInt) : x = nI (nn x) ∧ nn x < nn v ∧ nn x < n := by
  have := h.2
  have a := nn_toInt h0
  have b := nn_toInt h.1
  exact ⟨nI_nn h0, by omega, by omega⟩
theorem isCart_of {w : Row} {x : Int32} (hcn : Cn w) (h : ¬ sX7_isCart w x = 0) : x = nI (nn x) ∧ nn x < nn (w 6) ∧ nn x < 8 := by
  unfold sX7_isCart at h
  have := (in_cnt hcn.2.2).mp h
  exact sm_of hcn.2.2 this.1 this.2
theorem isBridge_of {w : Row} {x : Int32} (hcn : Cn w) (h : ¬ sX7_isBridge w x = 0) : x = nI (nn x) ∧ nn x < nn (w 5) ∧ nn x < 12 := by
  unfold sX7_isBridge at h
  have := (in_cnt hcn.2.1).mp h
  exact sm_of hcn.2.1 this.1 this.2
theorem isValue_of {x y : Int32} (h : ¬ sX7_isValue x y = 0) : x = nI (nn x) ∧ nn x < 4 := by
  unfold sX7_isValue at h
  by_cases h0 : x = 0
  · subst h0; exact ⟨by decide, by decide⟩
  rw [if_neg h0] at h
  by_cases h1 : x = 1
  · subst h1; exact ⟨by decide, by decide⟩
  rw [if_neg h1] at h
  by_cases h2 : x = 2
  · subst h2; exact ⟨by decide, by decide⟩
  rw [if_neg h2] at h
  by_cases h3 : x = 3
  · subst h3; exact ⟨by decide, by decide⟩
  rw [if_neg h3] at h
  exact absurd rfl h
def sX7_bridgeError (w : Row) (x : Int32) (y : Int32) (z : Int32) : Int32 := if sX7_isTown x = 0 then ((-1)) else (if sX7_isTown y = 0 then ((-1)) else (if x = y then ((-2)) else (if sX7_in z.toInt64 2 1000 = 0 then ((-2)) else (if w (5) = 12 then ((-4)) else (0)))))
set_option maxHeartbeats 4000000 in
set_option maxRecDepth 100000 in
theorem mX7_bridgeError (l : Launch) (E : EE) (B : Nat) (g : GS) (x : Int32) (y : Int32) (z : Int32) (w : Row)  (hw : g.2.2.1 0 = w) : CG l yX7_bridgeError cX7_bridgeError 4 (some .int) 2 45 E B [.ref (B + 459), .int x, .int y, .int z] g (some (.int (sX7_bridgeError w x y z))) g := by
  refine mkI (own := RX7) (ty := .int) rfl (by decide) rfl (rfl) (Nat.le_of_ble_eq_true rfl) (fun P_ e_ s_ m_ a_ below meth cd Q X fin ls hl hJ => ?_)
  have hx := X.1
  have hb := X.2.1
  have hl : lv_has ls 4 [(0, .ref (B + 459)), (1, .int x), (2, .int y), (3, .int z)] := hl
  refine lv_iload_n hx hb dX7_bridgeError_0 rfl (lv_at hl 1 rfl) ?_
  refine kX7_85 X hJ (mX7_isTown l E B _ x) rfl hl.1 ⟨Nat.le_of_ble_eq_true rfl, Nat.le_of_ble_eq_true rfl⟩ ⟨Nat.le_refl _, Nat.le_refl _⟩ (rest := []) rfl (Nat.le_of_ble_eq_true rfl) dX7_bridgeError_1 (fun H locs hJ => ?_)
  refine lv_if_eq (tgt := 14) hx hb dX7_bridgeError_4 (by decide) (fun c_4 => ?_) (fun c_4 => ?_)
  · skip
    refine lv_iconst (v := (-1)) hx hb dX7_bridgeError_14 (by decide) ?_
    have hs : sX7_bridgeError w x y z = (-1) := by unfold sX7_bridgeError; rw [if_pos c_4]
    exact fin hJ (by rw [hs]) dX7_bridgeError_15
  · skip
    refine lv_iload_n hx hb dX7_bridgeError_7 rfl (lv_at hl 2 rfl) ?_
    refine kX7_85 X hJ (mX7_isTown l E B _ y) rfl hl.1 ⟨Nat.le_of_ble_eq_true rfl, Nat.le_of_ble_eq_true rfl⟩ ⟨Nat.le_refl _, Nat.le_refl _⟩ (rest := []) rfl (Nat.le_of_ble_eq_true rfl) dX7_bridgeError_8 (fun H locs hJ => ?_)
    refine lv_if_ne (tgt := 16) hx hb dX7_bridgeError_11 (by decide) (fun c_11 => ?_) (fun c_11 => ?_)
    · skip
      refine lv_iload_n hx hb dX7_bridgeError_16 rfl (lv_at hl 1 rfl) ?_
      refine lv_iload_n hx hb dX7_bridgeError_17 rfl (lv_at hl 2 rfl) ?_
      refine lv_icmp_eq (tgt := 35) hx hb dX7_bridgeError_18 (by decide) (fun c_18 => ?_) (fun c_18 => ?_)
      · skip
        refine lv_bipush (v := (-2)) hx hb dX7_bridgeError_35 (by decide) ?_
        refine lv_goto (tgt := 57) hx hb dX7_bridgeError_37 (by decide) ?_
        have hs : sX7_bridgeError w x y z = (-2) := by unfold sX7_bridgeError; rw [if_neg c_4, if_neg c_11, if_pos c_18]
        exact fin hJ (by rw [hs]) dX7_bridgeError_57
      · skip
        refine lv_iload_n hx hb dX7_bridgeError_21 rfl (lv_at hl 3 rfl) ?_
        refine lv_i2l hx hb dX7_bridgeError_22 rfl ?_
        refine lv_ldc2 (own := RX7) hx hb X.2.2.2.1 (X.2.2.2.2.1 (.constantLong RX7 89 2) (tw (i := 805) (by decide +kernel) (by decide))) dX7_bridgeError_23 ?_
        refine lv_ldc2 (own := RX7) hx hb X.2.2.2.1 (X.2.2.2.2.1 (.constantLong RX7 91 1000) (tw (i := 806) (by decide +kernel) (by decide))) dX7_bridgeError_26 ?_
        refine kX7_81 X hJ (mX7_in l E B _ z.toInt64 2 1000) rfl hl.1 ⟨Nat.le_of_ble_eq_true rfl, Nat.le_of_ble_eq_true rfl⟩ ⟨Nat.le_refl _, Nat.le_refl _⟩ (rest := []) rfl (Nat.le_of_ble_eq_true rfl) dX7_bridgeError_29 (fun H locs hJ => ?_)
        refine lv_if_ne (tgt := 40) hx hb dX7_bridgeError_32 (by decide) (fun c_32 => ?_) (fun c_32 => ?_)
        · skip
          refine lv_aload_n hx hb dX7_bridgeError_40 rfl (lv_at hl 0 rfl) ?_
          refine gX7_7 X hJ (w := g.2.2.2) rfl dX7_bridgeError_41 ?_
          refine lv_iconst (v := 5) hx hb dX7_bridgeError_44 (by decide) ?_
          refine ld_s X hJ (t := 0) (w := w) (by omega) hw (j := 5) (by decide) (by omega) dX7_bridgeError_45 ?_
          refine lv_bipush (v := 12) hx hb dX7_bridgeError_46 (by decide) ?_
          refine lv_icmp_ne (tgt := 56) hx hb dX7_bridgeError_48 (by decide) (fun c_48 => ?_) (fun c_48 => ?_)
          · skip
            refine lv_iconst (v := 0) hx hb dX7_bridgeError_56 (by decide) ?_
            have hs : sX7_bridgeError w x y z = 0 := by unfold sX7_bridgeError; rw [if_neg c_4, if_neg c_11, if_neg c_18, if_neg c_32, if_neg c_48]
            exact fin hJ (by rw [hs]) dX7_bridgeError_57
          · skip
            refine lv_bipush (v := (-4)) hx hb dX7_bridgeError_51 (by decide) ?_
            refine lv_goto (tgt := 57) hx hb dX7_bridgeError_53 (by decide) ?_
            have hs : sX7_bridgeError w x y z = (-4) := by unfold sX7_bridgeError; rw [if_neg c_4, if_neg c_11, if_neg c_18, if_neg c_32, if_pos c_48]
            exact fin hJ (by rw [hs]) dX7_bridgeError_57
        · skip
          refine lv_bipush (v := (-2)) hx hb dX7_bridgeError_35 (by decide) ?_
          refine lv_goto (tgt := 57) hx hb dX7_bridgeError_37 (by decide) ?_
          have hs : sX7_bridgeError w x y z = (-2) := by unfold sX7_bridgeError; rw [if_neg c_4, if_neg c_11, if_neg c_18, if_pos c_32]
          exact fin hJ (by rw [hs]) dX7_bridgeError_57
    · skip
      refine lv_iconst (v := (-1)) hx hb dX7_bridgeError_14 (by decide) ?_
      have hs : sX7_bridgeError w x y z = (-1) := by unfold sX7_bridgeError; rw [if_neg c_4, if_pos c_11]
      exact fin hJ (by rw [hs]) dX7_bridgeError_15

def sX7_cartError (w : Row) (x : Int32) (y : Int32) : Int32 := if sX7_isTown x = 0 then ((-1)) else (if sX7_in y.toInt64 0 9999 = 0 then ((-2)) else (if w (6) = 8 then ((-4)) else (0)))
set_option maxHeartbeats 4000000 in
set_option maxRecDepth 100000 in
theorem mX7_cartError (l : Launch) (E : EE) (B : Nat) (g : GS) (x : Int32) (y : Int32) (w : Row)  (hw : g.2.2.1 0 = w) : CG l yX7_cartError cX7_cartError 3 (some .int) 2 45 E B [.ref (B + 459), .int x, .int y] g (some (.int (sX7_cartError w x y))) g := by
  refine mkI (own := RX7) (ty := .int) rfl (by decide) rfl (rfl) (Nat.le_of_ble_eq_true rfl) (fun P_ e_ s_ m_ a_ below meth cd Q X fin ls hl hJ => ?_)
  have hx := X.1
  have hb := X.2.1
  have hl : lv_has ls 3 [(0, .ref (B + 459)), (1, .int x), (2, .int y)] := hl
  refine lv_iload_n hx hb dX7_cartError_0 rfl (lv_at hl 1 rfl) ?_
  refine kX7_85 X hJ (mX7_isTown l E B _ x) rfl hl.1 ⟨Nat.le_of_ble_eq_true rfl, Nat.le_of_ble_eq_true rfl⟩ ⟨Nat.le_refl _, Nat.le_refl _⟩ (rest := []) rfl (Nat.le_of_ble_eq_true rfl) dX7_cartError_1 (fun H locs hJ => ?_)
  refine lv_if_ne (tgt := 11) hx hb dX7_cartError_4 (by decide) (fun c_4 => ?_) (fun c_4 => ?_)
  · skip
    refine lv_iload_n hx hb dX7_cartError_11 rfl (lv_at hl 2 rfl) ?_
    refine lv_i2l hx hb dX7_cartError_12 rfl ?_
    refine lv_lconst (v := 0) hx hb dX7_cartError_13 (by decide) ?_
    refine lv_ldc2 (own := RX7) hx hb X.2.2.2.1 (X.2.2.2.2.1 (.constantLong RX7 93 9999) (tw (i := 830) (by decide +kernel) (by decide))) dX7_cartError_14 ?_
    refine kX7_81 X hJ (mX7_in l E B _ y.toInt64 0 9999) rfl hl.1 ⟨Nat.le_of_ble_eq_true rfl, Nat.le_of_ble_eq_true rfl⟩ ⟨Nat.le_refl _, Nat.le_refl _⟩ (rest := []) rfl (Nat.le_of_ble_eq_true rfl) dX7_cartError_17 (fun H locs hJ => ?_)
    refine lv_if_ne (tgt := 28) hx hb dX7_cartError_20 (by decide) (fun c_20 => ?_) (fun c_20 => ?_)
    · skip
      refine lv_aload_n hx hb dX7_cartError_28 rfl (lv_at hl 0 rfl) ?_
      refine gX7_7 X hJ (w := g.2.2.2) rfl dX7_cartError_29 ?_
      refine lv_bipush (v := 6) hx hb dX7_cartError_32 (by decide) ?_
      refine ld_s X hJ (t := 0) (w := w) (by omega) hw (j := 6) (by decide) (by omega) dX7_cartError_34 ?_
      refine lv_bipush (v := 8) hx hb dX7_cartError_35 (by decide) ?_
      refine lv_icmp_ne (tgt := 45) hx hb dX7_cartError_37 (by decide) (fun c_37 => ?_) (fun c_37 => ?_)
      · skip
        refine lv_iconst (v := 0) hx hb dX7_cartError_45 (by decide) ?_
        have hs : sX7_cartError w x y = 0 := by unfold sX7_cartError; rw [if_neg c_4, if_neg c_20, if_neg c_37]
        exact fin hJ (by rw [hs]) dX7_cartError_46
      · skip
        refine lv_bipush (v := (-4)) hx hb dX7_cartError_40 (by decide) ?_
        refine lv_goto (tgt := 46) hx hb dX7_cartError_42 (by decide) ?_
        have hs : sX7_cartError w x y = (-4) := by unfold sX7_cartError; rw [if_neg c_4, if_neg c_20, if_pos c_37]
        exact fin hJ (by rw [hs]) dX7_cartError_46
    · skip
      refine lv_bipush (v := (-2)) hx hb dX7_cartError_23 (by decide) ?_
      refine lv_goto (tgt := 46) hx hb dX7_cartError_25 (by decide) ?_
      have hs : sX7_cartError w x y = (-2) := by unfold sX7_cartError; rw [if_neg c_4, if_pos c_20]
      exact fin hJ (by rw [hs]) dX7_cartError_46
  · skip
    refine lv_iconst (v := (-1)) hx hb dX7_cartError_7 (by decide) ?_
    refine lv_goto (tgt := 46) hx hb dX7_cartError_8 (by decide) ?_
    have hs : sX7_cartError w x y = (-1) := by unfold sX7_cartError; rw [if_pos c_4]
    exact fin hJ (by rw [hs]) dX7_cartError_46

def sX7_guessError (w : Row) (x : Int32) (y : Int32) (z : Int32) : Int32 := if sX7_isCart w x = 0 then ((-1)) else (if sX7_isBridge w y = 0 then ((-1)) else (if sX7_isNumber w (nn y) z = 0 then ((-2)) else (if w (104 + 8 * (nn x) + 2) = (-6) then (if sX7_isAt w (nn y) (w (104 + 8 * (nn x))) = 0 then ((-5)) else (0)) else ((-5)))))
set_option maxHeartbeats 4000000 in
set_option maxRecDepth 100000 in
theorem mX7_guessError (l : Launch) (E : EE) (B : Nat) (g : GS) (x : Int32) (y : Int32) (z : Int32) (w : Row)  (hw : g.2.2.1 0 = w) (hrn : Rn w) : CG l yX7_guessError cX7_guessError 4 (some .int) 2 47 E B [.ref (B + 459), .int x, .int y, .int z] g (some (.int (sX7_guessError w x y z))) g := by
  refine mkI (own := RX7) (ty := .int) rfl (by decide) rfl (rfl) (Nat.le_of_ble_eq_true rfl) (fun P_ e_ s_ m_ a_ below meth cd Q X fin ls hl hJ => ?_)
  have hx := X.1
  have hb := X.2.1
  have hl : lv_has ls 4 [(0, .ref (B + 459)), (1, .int x), (2, .int y), (3, .int z)] := hl
  refine lv_aload_n hx hb dX7_guessError_0 rfl (lv_at hl 0 rfl) ?_
  refine lv_iload_n hx hb dX7_guessError_1 rfl (lv_at hl 1 rfl) ?_
  refine kX7_95 X hJ (mX7_isCart l E B _ x w hw) rfl (by omega) (at_M rfl) hl.1 ⟨Nat.le_of_ble_eq_true rfl, Nat.le_of_ble_eq_true rfl⟩ ⟨Nat.le_refl _, Nat.le_refl _⟩ (rest := []) rfl (Nat.le_of_ble_eq_true rfl) dX7_guessError_2 (fun H locs hJ => ?_)
  refine lv_if_eq (tgt := 16) hx hb dX7_guessError_5 (by decide) (fun c_5 => ?_) (fun c_5 => ?_)
  · skip
    refine lv_iconst (v := (-1)) hx hb dX7_guessError_16 (by decide) ?_
    have hs : sX7_guessError w x y z = (-1) := by unfold sX7_guessError; rw [if_pos c_5]
    exact fin hJ (by rw [hs]) dX7_guessError_17
  · skip
    refine lv_aload_n hx hb dX7_guessError_8 rfl (lv_at hl 0 rfl) ?_
    refine lv_iload_n hx hb dX7_guessError_9 rfl (lv_at hl 2 rfl) ?_
    refine kX7_98 X hJ (mX7_isBridge l E B _ y w hw) rfl (by omega) (at_M rfl) hl.1 ⟨Nat.le_of_ble_eq_true rfl, Nat.le_of_ble_eq_true rfl⟩ ⟨Nat.le_refl _, Nat.le_refl _⟩ (rest := []) rfl (Nat.le_of_ble_eq_true rfl) dX7_guessError_10 (fun H locs hJ => ?_)
    refine lv_if_ne (tgt := 18) hx hb dX7_guessError_13 (by decide) (fun c_13 => ?_) (fun c_13 => ?_)
    · skip
      have hC_x := (isCart_of hrn.1 c_5).2.2
      have hB_y := (isBridge_of hrn.1 c_13).2.2
      have hl : lv_has ls 4 [(0, .ref (B + 459)), (1, .int (nI (nn x))), (2, .int y), (3, .int z)] := by rw [← show x = nI (nn x) from (isCart_of hrn.1 c_5).1]; exact hl
      have hl : lv_has ls 4 [(0, .ref (B + 459)), (1, .int (nI (nn x))), (2, .int (nI (nn y))), (3, .int z)] := by rw [← show y = nI (nn y) from (isBridge_of hrn.1 c_13).1]; exact hl
      refine lv_aload_n hx hb dX7_guessError_18 rfl (lv_at hl 0 rfl) ?_
      refine lv_iload_n hx hb dX7_guessError_19 rfl (lv_at hl 2 rfl) ?_
      refine lv_iload_n hx hb dX7_guessError_20 rfl (lv_at hl 3 rfl) ?_
      refine kX7_101 X hJ (mX7_isNumber l E B _ (nn y) z w (by omega) hw) rfl (by omega) (at_M rfl) hl.1 ⟨Nat.le_of_ble_eq_true rfl, Nat.le_of_ble_eq_true rfl⟩ ⟨Nat.le_refl _, Nat.le_refl _⟩ (rest := []) rfl (Nat.le_of_ble_eq_true rfl) dX7_guessError_21 (fun H locs hJ => ?_)
      refine lv_if_ne (tgt := 30) hx hb dX7_guessError_24 (by decide) (fun c_24 => ?_) (fun c_24 => ?_)
      · skip
        refine lv_aload_n hx hb dX7_guessError_30 rfl (lv_at hl 0 rfl) ?_
        refine gX7_7 X hJ (w := g.2.2.2) rfl dX7_guessError_31 ?_
        refine lv_iconst (v := 0) hx hb dX7_guessError_34 (by decide) ?_
        refine lv_iload_n hx hb dX7_guessError_35 rfl (lv_at hl 1 rfl) ?_
        refine kX7_40 X hJ (qX7_cartAt l E B _ 0 (nn x)) rfl hl.1 ⟨Nat.le_of_ble_eq_true rfl, Nat.le_of_ble_eq_true rfl⟩ ⟨Nat.le_refl _, Nat.le_refl _⟩ (rest := [.ref (B + 460)]) rfl (Nat.le_of_ble_eq_true rfl) dX7_guessError_36 (fun H locs hJ => ?_)
        refine lv_iconst (v := 2) hx hb dX7_guessError_39 (by decide) ?_
        refine xiadd (z := nI (360 * 0 + (104 + 8 * (nn x) + 2))) hx hb dX7_guessError_40 (nI_a3 0 (104 + 8 * (nn x)) 2) ?_
        refine ld_s X hJ (t := 0) (w := w) (by omega) hw (j := 104 + 8 * (nn x) + 2) (rfl) (by omega) dX7_guessError_41 ?_
        refine lv_bipush (v := (-6)) hx hb dX7_guessError_42 (by decide) ?_
        refine lv_icmp_ne (tgt := 66) hx hb dX7_guessError_44 (by decide) (fun c_44 => ?_) (fun c_44 => ?_)
        · skip
          refine lv_bipush (v := (-5)) hx hb dX7_guessError_66 (by decide) ?_
          refine lv_goto (tgt := 72) hx hb dX7_guessError_68 (by decide) ?_
          have hs : sX7_guessError w x y z = (-5) := by unfold sX7_guessError; rw [if_neg c_5, if_neg c_13, if_neg c_24, if_neg c_44]
          exact fin hJ (by rw [hs]) dX7_guessError_72
        · skip
          refine lv_aload_n hx hb dX7_guessError_47 rfl (lv_at hl 0 rfl) ?_
          refine lv_iconst (v := 0) hx hb dX7_guessError_48 (by decide) ?_
          refine lv_iload_n hx hb dX7_guessError_49 rfl (lv_at hl 2 rfl) ?_
          refine lv_aload_n hx hb dX7_guessError_50 rfl (lv_at hl 0 rfl) ?_
          refine gX7_7 X hJ (w := g.2.2.2) rfl dX7_guessError_51 ?_
          refine lv_iconst (v := 0) hx hb dX7_guessError_54 (by decide) ?_
          refine lv_iload_n hx hb dX7_guessError_55 rfl (lv_at hl 1 rfl) ?_
          refine kX7_40 X hJ (qX7_cartAt l E B _ 0 (nn x)) rfl hl.1 ⟨Nat.le_of_ble_eq_true rfl, Nat.le_of_ble_eq_true rfl⟩ ⟨Nat.le_refl _, Nat.le_refl _⟩ (rest := [.ref (B + 460), .int (nI (nn y)), .int 0, .ref (B + 459)]) rfl (Nat.le_of_ble_eq_true rfl) dX7_guessError_56 (fun H locs hJ => ?_)
          refine ld_s X hJ (t := 0) (w := w) (by omega) hw (j := 104 + 8 * (nn x)) (rfl) (by omega) dX7_guessError_59 ?_
          refine kX7_104 X hJ (mX7_isAt l E B _ 0 (nn y) (w (104 + 8 * (nn x))) w (by omega) (by omega) hw) rfl (by omega) (at_M rfl) hl.1 ⟨Nat.le_of_ble_eq_true rfl, Nat.le_of_ble_eq_true rfl⟩ ⟨Nat.le_refl _, Nat.le_refl _⟩ (rest := []) rfl (Nat.le_of_ble_eq_true rfl) dX7_guessError_60 (fun H locs hJ => ?_)
          refine lv_if_ne (tgt := 71) hx hb dX7_guessError_63 (by decide) (fun c_63 => ?_) (fun c_63 => ?_)
          · skip
            refine lv_iconst (v := 0) hx hb dX7_guessError_71 (by decide) ?_
            have hs : sX7_guessError w x y z = 0 := by unfold sX7_guessError; rw [if_neg c_5, if_neg c_13, if_neg c_24, if_pos c_44, if_neg c_63]
            exact fin hJ (by rw [hs]) dX7_guessError_72
          · skip
            refine lv_bipush (v := (-5)) hx hb dX7_guessError_66 (by decide) ?_
            refine lv_goto (tgt := 72) hx hb dX7_guessError_68 (by decide) ?_
            have hs : sX7_guessError w x y z = (-5) := by unfold sX7_guessError; rw [if_neg c_5, if_neg c_13, if_neg c_24, if_pos c_44, if_pos c_63]
            exact fin hJ (by rw [hs]) dX7_guessError_72
      · skip
        refine lv_bipush (v := (-2)) hx hb dX7_guessError_27 (by decide) ?_
        have hs : sX7_guessError w x y z = (-2) := by unfold sX7_guessError; rw [if_neg c_5, if_neg c_13, if_pos c_24]
        exact fin hJ (by rw [hs]) dX7_guessError_29
    · skip
      refine lv_iconst (v := (-1)) hx hb dX7_guessError_16 (by decide) ?_
      have hs : sX7_guessError w x y z = (-1) := by unfold sX7_guessError; rw [if_neg c_5, if_pos c_13]
      exact fin hJ (by rw [hs]) dX7_guessError_17

def sX7_leaveError (w : Row) (x : Int32) : Int32 := if sX7_isCart w x = 0 then ((-1)) else (if w (104 + 8 * (nn x) + 2) = (-6) then ((-5)) else (0))
set_option maxHeartbeats 4000000 in
set_option maxRecDepth 100000 in
theorem mX7_leaveError (l : Launch) (E : EE) (B : Nat) (g : GS) (x : Int32) (w : Row)  (hw : g.2.2.1 0 = w) (hrn : Rn w) : CG l yX7_leaveError cX7_leaveError 2 (some .int) 2 46 E B [.ref (B + 459), .int x] g (some (.int (sX7_leaveError w x))) g := by
  refine mkI (own := RX7) (ty := .int) rfl (by decide) rfl (rfl) (Nat.le_of_ble_eq_true rfl) (fun P_ e_ s_ m_ a_ below meth cd Q X fin ls hl hJ => ?_)
  have hx := X.1
  have hb := X.2.1
  have hl : lv_has ls 2 [(0, .ref (B + 459)), (1, .int x)] := hl
  refine lv_aload_n hx hb dX7_leaveError_0 rfl (lv_at hl 0 rfl) ?_
  refine lv_iload_n hx hb dX7_leaveError_1 rfl (lv_at hl 1 rfl) ?_
  refine kX7_95 X hJ (mX7_isCart l E B _ x w hw) rfl (by omega) (at_M rfl) hl.1 ⟨Nat.le_of_ble_eq_true rfl, Nat.le_of_ble_eq_true rfl⟩ ⟨Nat.le_refl _, Nat.le_refl _⟩ (rest := []) rfl (Nat.le_of_ble_eq_true rfl) dX7_leaveError_2 (fun H locs hJ => ?_)
  refine lv_if_ne (tgt := 12) hx hb dX7_leaveError_5 (by decide) (fun c_5 => ?_) (fun c_5 => ?_)
  · skip
    have hC_x := (isCart_of hrn.1 c_5).2.2
    have hl : lv_has ls 2 [(0, .ref (B + 459)), (1, .int (nI (nn x)))] := by rw [← show x = nI (nn x) from (isCart_of hrn.1 c_5).1]; exact hl
    refine lv_aload_n hx hb dX7_leaveError_12 rfl (lv_at hl 0 rfl) ?_
    refine gX7_7 X hJ (w := g.2.2.2) rfl dX7_leaveError_13 ?_
    refine lv_iconst (v := 0) hx hb dX7_leaveError_16 (by decide) ?_
    refine lv_iload_n hx hb dX7_leaveError_17 rfl (lv_at hl 1 rfl) ?_
    refine kX7_40 X hJ (qX7_cartAt l E B _ 0 (nn x)) rfl hl.1 ⟨Nat.le_of_ble_eq_true rfl, Nat.le_of_ble_eq_true rfl⟩ ⟨Nat.le_refl _, Nat.le_refl _⟩ (rest := [.ref (B + 460)]) rfl (Nat.le_of_ble_eq_true rfl) dX7_leaveError_18 (fun H locs hJ => ?_)
    refine lv_iconst (v := 2) hx hb dX7_leaveError_21 (by decide) ?_
    refine xiadd (z := nI (360 * 0 + (104 + 8 * (nn x) + 2))) hx hb dX7_leaveError_22 (nI_a3 0 (104 + 8 * (nn x)) 2) ?_
    refine ld_s X hJ (t := 0) (w := w) (by omega) hw (j := 104 + 8 * (nn x) + 2) (rfl) (by omega) dX7_leaveError_23 ?_
    refine lv_bipush (v := (-6)) hx hb dX7_leaveError_24 (by decide) ?_
    refine lv_icmp_ne (tgt := 34) hx hb dX7_leaveError_26 (by decide) (fun c_26 => ?_) (fun c_26 => ?_)
    · skip
      refine lv_iconst (v := 0) hx hb dX7_leaveError_34 (by decide) ?_
      have hs : sX7_leaveError w x = 0 := by unfold sX7_leaveError; rw [if_neg c_5, if_neg c_26]
      exact fin hJ (by rw [hs]) dX7_leaveError_35
    · skip
      refine lv_bipush (v := (-5)) hx hb dX7_leaveError_29 (by decide) ?_
      refine lv_goto (tgt := 35) hx hb dX7_leaveError_31 (by decide) ?_
      have hs : sX7_leaveError w x = (-5) := by unfold sX7_leaveError; rw [if_neg c_5, if_pos c_26]
      exact fin hJ (by rw [hs]) dX7_leaveError_35
  · skip
    refine lv_iconst (v := (-1)) hx hb dX7_leaveError_8 (by decide) ?_
    refine lv_goto (tgt := 35) hx hb dX7_leaveError_9 (by decide) ?_
    have hs : sX7_leaveError w x = (-1) := by unfold sX7_leaveError; rw [if_pos c_5]
    exact fin hJ (by rw [hs]) dX7_leaveError_35

def sX7_hintError (w : Row) (x : Int32) (y : Int32) : Int32 := if sX7_isCart w x = 0 then ((-1)) else (if sX7_isBridge w y = 0 then ((-1)) else (if sX7_isAt w (nn y) (w (104 + 8 * (nn x))) = 0 then ((-5)) else (if w (104 + 8 * (nn x) + 1) < w (1) then ((-5)) else (if w (168 + 2 * (12 * (nn x) + (nn y)) + 1) ≤ w (168 + 2 * (12 * (nn x) + (nn y))) then ((-5)) else (0)))))
set_option maxHeartbeats 4000000 in
set_option maxRecDepth 100000 in
theorem mX7_hintError (l : Launch) (E : EE) (B : Nat) (g : GS) (x : Int32) (y : Int32) (w : Row)  (hw : g.2.2.1 0 = w) (hrn : Rn w) : CG l yX7_hintError cX7_hintError 5 (some .int) 2 46 E B [.ref (B + 459), .int x, .int y] g (some (.int (sX7_hintError w x y))) g := by
  refine mkI (own := RX7) (ty := .int) rfl (by decide) rfl (rfl) (Nat.le_of_ble_eq_true rfl) (fun P_ e_ s_ m_ a_ below meth cd Q X fin ls hl hJ => ?_)
  have hx := X.1
  have hb := X.2.1
  have hl : lv_has ls 5 [(0, .ref (B + 459)), (1, .int x), (2, .int y)] := hl
  refine lv_aload_n hx hb dX7_hintError_0 rfl (lv_at hl 0 rfl) ?_
  refine lv_iload_n hx hb dX7_hintError_1 rfl (lv_at hl 1 rfl) ?_
  refine kX7_95 X hJ (mX7_isCart l E B _ x w hw) rfl (by omega) (at_M rfl) hl.1 ⟨Nat.le_of_ble_eq_true rfl, Nat.le_of_ble_eq_true rfl⟩ ⟨Nat.le_refl _, Nat.le_refl _⟩ (rest := []) rfl (Nat.le_of_ble_eq_true rfl) dX7_hintError_2 (fun H locs hJ => ?_)
  refine lv_if_eq (tgt := 16) hx hb dX7_hintError_5 (by decide) (fun c_5 => ?_) (fun c_5 => ?_)
  · skip
    refine lv_iconst (v := (-1)) hx hb dX7_hintError_16 (by decide) ?_
    have hs : sX7_hintError w x y = (-1) := by unfold sX7_hintError; rw [if_pos c_5]
    exact fin hJ (by rw [hs]) dX7_hintError_17
  · skip
    refine lv_aload_n hx hb dX7_hintError_8 rfl (lv_at hl 0 rfl) ?_
    refine lv_iload_n hx hb dX7_hintError_9 rfl (lv_at hl 2 rfl) ?_
    refine kX7_98 X hJ (mX7_isBridge l E B _ y w hw) rfl (by omega) (at_M rfl) hl.1 ⟨Nat.le_of_ble_eq_true rfl, Nat.le_of_ble_eq_true rfl⟩ ⟨Nat.le_refl _, Nat.le_refl _⟩ (rest := []) rfl (Nat.le_of_ble_eq_true rfl) dX7_hintError_10 (fun H locs hJ => ?_)
    refine lv_if_ne (tgt := 18) hx hb dX7_hintError_13 (by decide) (fun c_13 => ?_) (fun c_13 => ?_)
    · skip
      have hC_x := (isCart_of hrn.1 c_5).2.2
      have hB_y := (isBridge_of hrn.1 c_13).2.2
      have hl : lv_has ls 5 [(0, .ref (B + 459)), (1, .int (nI (nn x))), (2, .int y)] := by rw [← show x = nI (nn x) from (isCart_of hrn.1 c_5).1]; exact hl
      have hl : lv_has ls 5 [(0, .ref (B + 459)), (1, .int (nI (nn x))), (2, .int (nI (nn y)))] := by rw [← show y = nI (nn y) from (isBridge_of hrn.1 c_13).1]; exact hl
      refine lv_iconst (v := 0) hx hb dX7_hintError_18 (by decide) ?_
      refine lv_iload_n hx hb dX7_hintError_19 rfl (lv_at hl 1 rfl) ?_
      refine lv_iload_n hx hb dX7_hintError_20 rfl (lv_at hl 2 rfl) ?_
      refine kX7_36 X hJ (qX7_rangeAt l E B _ 0 (nn x) (nn y)) rfl hl.1 ⟨Nat.le_of_ble_eq_true rfl, Nat.le_of_ble_eq_true rfl⟩ ⟨Nat.le_refl _, Nat.le_refl _⟩ (rest := []) rfl (Nat.le_of_ble_eq_true rfl) dX7_hintError_21 (fun H locs hJ => ?_)
      refine lv_istore_n (lv' := [(3, .int (nI (360 * 0 + (168 + 2 * (12 * (nn x) + (nn y)))))), (0, .ref (B + 459)), (1, .int (nI (nn x))), (2, .int (nI (nn y)))]) hx hb dX7_hintError_24 rfl hl (by decide) rfl (fun ls hl => ?_)
      refine lv_aload_n hx hb dX7_hintError_25 rfl (lv_at hl 1 rfl) ?_
      refine lv_iconst (v := 0) hx hb dX7_hintError_26 (by decide) ?_
      refine lv_iload_n hx hb dX7_hintError_27 rfl (lv_at hl 3 rfl) ?_
      refine lv_aload_n hx hb dX7_hintError_28 rfl (lv_at hl 1 rfl) ?_
      refine gX7_7 X hJ (w := g.2.2.2) rfl dX7_hintError_29 ?_
      refine lv_iconst (v := 0) hx hb dX7_hintError_32 (by decide) ?_
      refine lv_iload_n hx hb dX7_hintError_33 rfl (lv_at hl 2 rfl) ?_
      refine kX7_40 X hJ (qX7_cartAt l E B _ 0 (nn x)) rfl hl.1 ⟨Nat.le_of_ble_eq_true rfl, Nat.le_of_ble_eq_true rfl⟩ ⟨Nat.le_refl _, Nat.le_refl _⟩ (rest := [.ref (B + 460), .int (nI (nn y)), .int 0, .ref (B + 459)]) rfl (Nat.le_of_ble_eq_true rfl) dX7_hintError_34 (fun H locs hJ => ?_)
      refine ld_s X hJ (t := 0) (w := w) (by omega) hw (j := 104 + 8 * (nn x)) (rfl) (by omega) dX7_hintError_37 ?_
      refine kX7_104 X hJ (mX7_isAt l E B _ 0 (nn y) (w (104 + 8 * (nn x))) w (by omega) (by omega) hw) rfl (by omega) (at_M rfl) hl.1 ⟨Nat.le_of_ble_eq_true rfl, Nat.le_of_ble_eq_true rfl⟩ ⟨Nat.le_refl _, Nat.le_refl _⟩ (rest := []) rfl (Nat.le_of_ble_eq_true rfl) dX7_hintError_38 (fun H locs hJ => ?_)
      refine lv_if_eq (tgt := 86) hx hb dX7_hintError_41 (by decide) (fun c_41 => ?_) (fun c_41 => ?_)
      · skip
        refine lv_iconst (v := 0) hx hb dX7_hintError_86 (by decide) ?_
        refine lv_istore (lv' := [(4, .int 0), (3, .int (nI (360 * 0 + (168 + 2 * (12 * (nn x) + (nn y)))))), (0, .ref (B + 459)), (1, .int (nI (nn x))), (2, .int (nI (nn y)))]) hx hb dX7_hintError_87 hl (by decide) rfl (fun ls hl => ?_)
        refine lv_iload hx hb dX7_hintError_89 (lv_at hl 0 rfl) ?_
        refine lv_if_eq (tgt := 98) hx hb dX7_hintError_91 (by decide) (fun c_91 => ?_) (fun c_91 => ?_)
        · skip
          refine lv_bipush (v := (-5)) hx hb dX7_hintError_98 (by decide) ?_
          have hs : sX7_hintError w x y = (-5) := by unfold sX7_hintError; rw [if_neg c_5, if_neg c_13, if_pos c_41]
          exact fin hJ (by rw [hs]) dX7_hintError_100
        · exact absurd c_91 (by decide)
      · skip
        refine lv_aload_n hx hb dX7_hintError_44 rfl (lv_at hl 1 rfl) ?_
        refine gX7_7 X hJ (w := g.2.2.2) rfl dX7_hintError_45 ?_
        refine lv_iconst (v := 0) hx hb dX7_hintError_48 (by decide) ?_
        refine lv_iload_n hx hb dX7_hintError_49 rfl (lv_at hl 2 rfl) ?_
        refine kX7_40 X hJ (qX7_cartAt l E B _ 0 (nn x)) rfl hl.1 ⟨Nat.le_of_ble_eq_true rfl, Nat.le_of_ble_eq_true rfl⟩ ⟨Nat.le_refl _, Nat.le_refl _⟩ (rest := [.ref (B + 460)]) rfl (Nat.le_of_ble_eq_true rfl) dX7_hintError_50 (fun H locs hJ => ?_)
        refine lv_iconst (v := 1) hx hb dX7_hintError_53 (by decide) ?_
        refine xiadd (z := nI (360 * 0 + (104 + 8 * (nn x) + 1))) hx hb dX7_hintError_54 (nI_a3 0 (104 + 8 * (nn x)) 1) ?_
        refine ld_s X hJ (t := 0) (w := w) (by omega) hw (j := 104 + 8 * (nn x) + 1) (rfl) (by omega) dX7_hintError_55 ?_
        refine lv_aload_n hx hb dX7_hintError_56 rfl (lv_at hl 1 rfl) ?_
        refine gX7_7 X hJ (w := g.2.2.2) rfl dX7_hintError_57 ?_
        refine lv_iconst (v := 1) hx hb dX7_hintError_60 (by decide) ?_
        refine ld_s X hJ (t := 0) (w := w) (by omega) hw (j := 1) (by decide) (by omega) dX7_hintError_61 ?_
        refine lv_icmp_lt (tgt := 86) hx hb dX7_hintError_62 (by decide) (fun c_62 => ?_) (fun c_62 => ?_)
        · skip
          refine lv_iconst (v := 0) hx hb dX7_hintError_86 (by decide) ?_
          refine lv_istore (lv' := [(4, .int 0), (3, .int (nI (360 * 0 + (168 + 2 * (12 * (nn x) + (nn y)))))), (0, .ref (B + 459)), (1, .int (nI (nn x))), (2, .int (nI (nn y)))]) hx hb dX7_hintError_87 hl (by decide) rfl (fun ls hl => ?_)
          refine lv_iload hx hb dX7_hintError_89 (lv_at hl 0 rfl) ?_
          refine lv_if_eq (tgt := 98) hx hb dX7_hintError_91 (by decide) (fun c_91 => ?_) (fun c_91 => ?_)
          · skip
            refine lv_bipush (v := (-5)) hx hb dX7_hintError_98 (by decide) ?_
            have hs : sX7_hintError w x y = (-5) := by unfold sX7_hintError; rw [if_neg c_5, if_neg c_13, if_neg c_41, if_pos c_62]
            exact fin hJ (by rw [hs]) dX7_hintError_100
          · exact absurd c_91 (by decide)
        · skip
          refine lv_aload_n hx hb dX7_hintError_65 rfl (lv_at hl 1 rfl) ?_
          refine gX7_7 X hJ (w := g.2.2.2) rfl dX7_hintError_66 ?_
          refine lv_iload_n hx hb dX7_hintError_69 rfl (lv_at hl 0 rfl) ?_
          refine ld_s X hJ (t := 0) (w := w) (by omega) hw (j := 168 + 2 * (12 * (nn x) + (nn y))) (rfl) (by omega) dX7_hintError_70 ?_
          refine lv_aload_n hx hb dX7_hintError_71 rfl (lv_at hl 1 rfl) ?_
          refine gX7_7 X hJ (w := g.2.2.2) rfl dX7_hintError_72 ?_
          refine lv_iload_n hx hb dX7_hintError_75 rfl (lv_at hl 0 rfl) ?_
          refine lv_iconst (v := 1) hx hb dX7_hintError_76 (by decide) ?_
          refine xiadd (z := nI (360 * 0 + (168 + 2 * (12 * (nn x) + (nn y)) + 1))) hx hb dX7_hintError_77 (nI_a3 0 (168 + 2 * (12 * (nn x) + (nn y))) 1) ?_
          refine ld_s X hJ (t := 0) (w := w) (by omega) hw (j := 168 + 2 * (12 * (nn x) + (nn y)) + 1) (rfl) (by omega) dX7_hintError_78 ?_
          refine lv_icmp_ge (tgt := 86) hx hb dX7_hintError_79 (by decide) (fun c_79 => ?_) (fun c_79 => ?_)
          · skip
            refine lv_iconst (v := 0) hx hb dX7_hintError_86 (by decide) ?_
            refine lv_istore (lv' := [(4, .int 0), (3, .int (nI (360 * 0 + (168 + 2 * (12 * (nn x) + (nn y)))))), (0, .ref (B + 459)), (1, .int (nI (nn x))), (2, .int (nI (nn y)))]) hx hb dX7_hintError_87 hl (by decide) rfl (fun ls hl => ?_)
            refine lv_iload hx hb dX7_hintError_89 (lv_at hl 0 rfl) ?_
            refine lv_if_eq (tgt := 98) hx hb dX7_hintError_91 (by decide) (fun c_91 => ?_) (fun c_91 => ?_)
            · skip
              refine lv_bipush (v := (-5)) hx hb dX7_hintError_98 (by decide) ?_
              have hs : sX7_hintError w x y = (-5) := by unfold sX7_hintError; rw [if_neg c_5, if_neg c_13, if_neg c_41, if_neg c_62, if_pos c_79]
              exact fin hJ (by rw [hs]) dX7_hintError_100
            · exact absurd c_91 (by decide)
          · skip
            refine lv_iconst (v := 1) hx hb dX7_hintError_82 (by decide) ?_
            refine lv_goto (tgt := 87) hx hb dX7_hintError_83 (by decide) ?_
            refine lv_istore (lv' := [(4, .int 1), (3, .int (nI (360 * 0 + (168 + 2 * (12 * (nn x) + (nn y)))))), (0, .ref (B + 459)), (1, .int (nI (nn x))), (2, .int (nI (nn y)))]) hx hb dX7_hintError_87 hl (by decide) rfl (fun ls hl => ?_)
            refine lv_iload hx hb dX7_hintError_89 (lv_at hl 0 rfl) ?_
            refine lv_if_eq (tgt := 98) hx hb dX7_hintError_91 (by decide) (fun c_91 => ?_) (fun c_91 => ?_)
            · exact absurd c_91 (by decide)
            · skip
              refine lv_iconst (v := 0) hx hb dX7_hintError_94 (by decide) ?_
              refine lv_goto (tgt := 100) hx hb dX7_hintError_95 (by decide) ?_
              have hs : sX7_hintError w x y = 0 := by unfold sX7_hintError; rw [if_neg c_5, if_neg c_13, if_neg c_41, if_neg c_62, if_neg c_79]
              exact fin hJ (by rw [hs]) dX7_hintError_100
    · skip
      refine lv_iconst (v := (-1)) hx hb dX7_hintError_16 (by decide) ?_
      have hs : sX7_hintError w x y = (-1) := by unfold sX7_hintError; rw [if_neg c_5, if_pos c_13]
      exact fin hJ (by rw [hs]) dX7_hintError_17

def sX7_passError (w : Row) (x : Int32) : Int32 := if sX7_in x.toInt64 1 99 = 0 then ((-2)) else (if (w (4)) + x ≤ 9999 then (0) else ((-5)))
set_option maxHeartbeats 4000000 in
set_option maxRecDepth 100000 in
theorem mX7_passError (l : Launch) (E : EE) (B : Nat) (g : GS) (x : Int32) (w : Row)  (hw : g.2.2.1 0 = w) : CG l yX7_passError cX7_passError 2 (some .int) 1 25 E B [.ref (B + 459), .int x] g (some (.int (sX7_passError w x))) g := by
  refine mkI (own := RX7) (ty := .int) rfl (by decide) rfl (rfl) (Nat.le_of_ble_eq_true rfl) (fun P_ e_ s_ m_ a_ below meth cd Q X fin ls hl hJ => ?_)
  have hx := X.1
  have hb := X.2.1
  have hl : lv_has ls 2 [(0, .ref (B + 459)), (1, .int x)] := hl
  refine lv_iload_n hx hb dX7_passError_0 rfl (lv_at hl 1 rfl) ?_
  refine lv_i2l hx hb dX7_passError_1 rfl ?_
  refine lv_lconst (v := 1) hx hb dX7_passError_2 (by decide) ?_
  refine lv_ldc2 (own := RX7) hx hb X.2.2.2.1 (X.2.2.2.2.1 (.constantLong RX7 108 99) (tw (i := 910) (by decide +kernel) (by decide))) dX7_passError_3 ?_
  refine kX7_81 X hJ (mX7_in l E B _ x.toInt64 1 99) rfl hl.1 ⟨Nat.le_of_ble_eq_true rfl, Nat.le_of_ble_eq_true rfl⟩ ⟨Nat.le_refl _, Nat.le_refl _⟩ (rest := []) rfl (Nat.le_of_ble_eq_true rfl) dX7_passError_6 (fun H locs hJ => ?_)
  refine lv_if_ne (tgt := 17) hx hb dX7_passError_9 (by decide) (fun c_9 => ?_) (fun c_9 => ?_)
  · skip
    refine lv_aload_n hx hb dX7_passError_17 rfl (lv_at hl 0 rfl) ?_
    refine gX7_7 X hJ (w := g.2.2.2) rfl dX7_passError_18 ?_
    refine lv_iconst (v := 4) hx hb dX7_passError_21 (by decide) ?_
    refine ld_s X hJ (t := 0) (w := w) (by omega) hw (j := 4) (by decide) (by omega) dX7_passError_22 ?_
    refine lv_iload_n hx hb dX7_passError_23 rfl (lv_at hl 1 rfl) ?_
    refine lv_iadd hx hb dX7_passError_24 ?_
    refine lv_sipush (v := 9999) hx hb dX7_passError_25 (by decide) ?_
    refine lv_icmp_le (tgt := 36) hx hb dX7_passError_28 (by decide) (fun c_28 => ?_) (fun c_28 => ?_)
    · skip
      refine lv_iconst (v := 0) hx hb dX7_passError_36 (by decide) ?_
      have hs : sX7_passError w x = 0 := by unfold sX7_passError; rw [if_neg c_9, if_pos c_28]
      exact fin hJ (by rw [hs]) dX7_passError_37
    · skip
      refine lv_bipush (v := (-5)) hx hb dX7_passError_31 (by decide) ?_
      refine lv_goto (tgt := 37) hx hb dX7_passError_33 (by decide) ?_
      have hs : sX7_passError w x = (-5) := by unfold sX7_passError; rw [if_neg c_9, if_neg c_28]
      exact fin hJ (by rw [hs]) dX7_passError_37
  · skip
    refine lv_bipush (v := (-2)) hx hb dX7_passError_12 (by decide) ?_
    refine lv_goto (tgt := 37) hx hb dX7_passError_14 (by decide) ?_
    have hs : sX7_passError w x = (-2) := by unfold sX7_passError; rw [if_pos c_9]
    exact fin hJ (by rw [hs]) dX7_passError_37

def sX7_builds (w : Row) (x : Int32) (y : Int32) (z : Int32) : Int32 × Row := (nI (nn (w (5))), (sX7_draws (upd (upd (upd (upd (upd (upd (upd (upd w (20 + 7 * (nn (w (5))) + 0) x) (20 + 7 * (nn (w (5))) + 1) y) (20 + 7 * (nn (w (5))) + 2) z) (20 + 7 * (nn (w (5))) + 3) 0) (20 + 7 * (nn (w (5))) + 4) 0) (20 + 7 * (nn (w (5))) + 5) 0) (20 + 7 * (nn (w (5))) + 6) 0) (5) (((upd (upd (upd (upd (upd (upd (upd w (20 + 7 * (nn (w (5))) + 0) x) (20 + 7 * (nn (w (5))) + 1) y) (20 + 7 * (nn (w (5))) + 2) z) (20 + 7 * (nn (w (5))) + 3) 0) (20 + 7 * (nn (w (5))) + 4) 0) (20 + 7 * (nn (w (5))) + 5) 0) (20 + 7 * (nn (w (5))) + 6) 0) (5)) + 1)) (nn (w (5)))))
set_option maxHeartbeats 4000000 in
set_option maxRecDepth 100000 in
theorem mX7_builds (l : Launch) (E : EE) (B : Nat) (g : GS) (x : Int32) (y : Int32) (z : Int32) (w : Row)  (hrn : Rn w) (hq5 : nn (w (5)) < 12) (hz : ¬ z = 0) : CG l yX7_builds cX7_builds 7 (some .int) 2 46 E B [.ref (B + 459), .int x, .int y, .int z] (upS g 0 w) (some (.int (sX7_builds w x y z).1)) (upS g 0 ((sX7_builds w x y z).2)) := by
  refine mkI (own := RX7) (ty := .int) rfl (by decide) rfl (rfl) (Nat.le_of_ble_eq_true rfl) (fun P_ e_ s_ m_ a_ below meth cd Q X fin ls hl hJ => ?_)
  have hx := X.1
  have hb := X.2.1
  have hl : lv_has ls 7 [(0, .ref (B + 459)), (1, .int x), (2, .int y), (3, .int z)] := hl
  refine lv_aload_n hx hb dX7_builds_0 rfl (lv_at hl 0 rfl) ?_
  refine gX7_7 X hJ (w := g.2.2.2) rfl dX7_builds_1 ?_
  refine lv_iconst (v := 5) hx hb dX7_builds_4 (by decide) ?_
  refine ld_s X hJ (t := 0) (w := w) (by omega) upS_1 (j := 5) (by decide) (by omega) dX7_builds_5 ?_
  refine cvt (y := nI (nn (w (5)))) (hrn.1.2.1.eq) ?_
  refine lv_istore (lv' := [(4, .int (nI (nn (w (5))))), (0, .ref (B + 459)), (1, .int x), (2, .int y), (3, .int z)]) hx hb dX7_builds_6 hl (by decide) rfl (fun ls hl => ?_)
  refine lv_iconst (v := 0) hx hb dX7_builds_8 (by decide) ?_
  refine lv_iload hx hb dX7_builds_9 (lv_at hl 0 rfl) ?_
  refine kX7_31 X hJ (qX7_bridgeAt l E B _ 0 (nn (w (5)))) rfl hl.1 ⟨Nat.le_of_ble_eq_true rfl, Nat.le_of_ble_eq_true rfl⟩ ⟨Nat.le_refl _, Nat.le_refl _⟩ (rest := []) rfl (Nat.le_of_ble_eq_true rfl) dX7_builds_11 (fun H locs hJ => ?_)
  refine lv_istore (lv' := [(5, .int (nI (360 * 0 + (20 + 7 * (nn (w (5))))))), (4, .int (nI (nn (w (5))))), (0, .ref (B + 459)), (1, .int x), (2, .int y), (3, .int z)]) hx hb dX7_builds_14 hl (by decide) rfl (fun ls hl => ?_)
  refine lv_iconst (v := 0) hx hb dX7_builds_16 (by decide) ?_
  refine lv_istore (lv' := [(6, .int 0), (5, .int (nI (360 * 0 + (20 + 7 * (nn (w (5))))))), (4, .int (nI (nn (w (5))))), (0, .ref (B + 459)), (1, .int x), (2, .int y), (3, .int z)]) hx hb dX7_builds_17 hl (by decide) rfl (fun ls hl => ?_)
  refine lv_iload hx hb dX7_builds_19 (lv_at hl 0 rfl) ?_
  refine lv_bipush (v := 7) hx hb dX7_builds_21 (by decide) ?_
  refine lv_icmp_ge (tgt := 72) hx hb dX7_builds_23 (by decide) (fun c_23 => ?_) (fun c_23 => ?_)
  · exact absurd c_23 (by decide)
  · skip
    refine lv_aload_n hx hb dX7_builds_26 rfl (lv_at hl 3 rfl) ?_
    refine gX7_7 X hJ (w := g.2.2.2) rfl dX7_builds_27 ?_
    refine lv_iload hx hb dX7_builds_30 (lv_at hl 1 rfl) ?_
    refine lv_iload hx hb dX7_builds_32 (lv_at hl 0 rfl) ?_
    refine xiadd (z := nI (360 * 0 + (20 + 7 * (nn (w (5))) + 0))) hx hb dX7_builds_34 (nI_a3 0 (20 + 7 * (nn (w (5)))) 0) ?_
    refine lv_iload hx hb dX7_builds_35 (lv_at hl 0 rfl) ?_
    refine lv_if_ne (tgt := 44) hx hb dX7_builds_37 (by decide) (fun c_37 => ?_) (fun c_37 => ?_)
    · exact absurd c_37 (by decide)
    · skip
      refine lv_iload_n hx hb dX7_builds_40 rfl (lv_at hl 4 rfl) ?_
      refine lv_goto (tgt := 65) hx hb dX7_builds_41 (by decide) ?_
      refine st_s X (t := 0) hJ (by omega) (j := 20 + 7 * (nn (w (5))) + 0) (rfl) (by omega) dX7_builds_65 (fun H locs hJ => ?_)
      refine lv_iinc (v := 1) (lv' := [(6, .int 1), (5, .int (nI (360 * 0 + (20 + 7 * (nn (w (5))))))), (4, .int (nI (nn (w (5))))), (0, .ref (B + 459)), (1, .int x), (2, .int y), (3, .int z)]) hx hb dX7_builds_66 hl (k := 0) rfl (by decide) (by decide) rfl (fun ls hl => ?_)
      refine lv_goto (tgt := 19) hx hb dX7_builds_69 (by decide) ?_
      refine lv_iload hx hb dX7_builds_19 (lv_at hl 0 rfl) ?_
      refine lv_bipush (v := 7) hx hb dX7_builds_21 (by decide) ?_
      refine lv_icmp_ge (tgt := 72) hx hb dX7_builds_23 (by decide) (fun c_23 => ?_) (fun c_23 => ?_)
      · exact absurd c_23 (by decide)
      · skip
        refine lv_aload_n hx hb dX7_builds_26 rfl (lv_at hl 3 rfl) ?_
        refine gX7_7 X hJ (w := g.2.2.2) rfl dX7_builds_27 ?_
        refine lv_iload hx hb dX7_builds_30 (lv_at hl 1 rfl) ?_
        refine lv_iload hx hb dX7_builds_32 (lv_at hl 0 rfl) ?_
        refine xiadd (z := nI (360 * 0 + (20 + 7 * (nn (w (5))) + 1))) hx hb dX7_builds_34 (nI_a3 0 (20 + 7 * (nn (w (5)))) 1) ?_
        refine lv_iload hx hb dX7_builds_35 (lv_at hl 0 rfl) ?_
        refine lv_if_ne (tgt := 44) hx hb dX7_builds_37 (by decide) (fun c_37 => ?_) (fun c_37 => ?_)
        · skip
          refine lv_iload hx hb dX7_builds_44 (lv_at hl 0 rfl) ?_
          refine lv_iconst (v := 1) hx hb dX7_builds_46 (by decide) ?_
          refine lv_icmp_ne (tgt := 54) hx hb dX7_builds_47 (by decide) (fun c_47 => ?_) (fun c_47 => ?_)
          · exact absurd c_47 (by decide)
          · skip
            refine lv_iload_n hx hb dX7_builds_50 rfl (lv_at hl 5 rfl) ?_
            refine lv_goto (tgt := 65) hx hb dX7_builds_51 (by decide) ?_
            refine st_s X (t := 0) hJ (by omega) (j := 20 + 7 * (nn (w (5))) + 1) (rfl) (by omega) dX7_builds_65 (fun H locs hJ => ?_)
            refine lv_iinc (v := 2) (lv' := [(6, .int 2), (5, .int (nI (360 * 0 + (20 + 7 * (nn (w (5))))))), (4, .int (nI (nn (w (5))))), (0, .ref (B + 459)), (1, .int x), (2, .int y), (3, .int z)]) hx hb dX7_builds_66 hl (k := 0) rfl (by decide) (by decide) rfl (fun ls hl => ?_)
            refine lv_goto (tgt := 19) hx hb dX7_builds_69 (by decide) ?_
            refine lv_iload hx hb dX7_builds_19 (lv_at hl 0 rfl) ?_
            refine lv_bipush (v := 7) hx hb dX7_builds_21 (by decide) ?_
            refine lv_icmp_ge (tgt := 72) hx hb dX7_builds_23 (by decide) (fun c_23 => ?_) (fun c_23 => ?_)
            · exact absurd c_23 (by decide)
            · skip
              refine lv_aload_n hx hb dX7_builds_26 rfl (lv_at hl 3 rfl) ?_
              refine gX7_7 X hJ (w := g.2.2.2) rfl dX7_builds_27 ?_
              refine lv_iload hx hb dX7_builds_30 (lv_at hl 1 rfl) ?_
              refine lv_iload hx hb dX7_builds_32 (lv_at hl 0 rfl) ?_
              refine xiadd (z := nI (360 * 0 + (20 + 7 * (nn (w (5))) + 2))) hx hb dX7_builds_34 (nI_a3 0 (20 + 7 * (nn (w (5)))) 2) ?_
              refine lv_iload hx hb dX7_builds_35 (lv_at hl 0 rfl) ?_
              refine lv_if_ne (tgt := 44) hx hb dX7_builds_37 (by decide) (fun c_37 => ?_) (fun c_37 => ?_)
              · skip
                refine lv_iload hx hb dX7_builds_44 (lv_at hl 0 rfl) ?_
                refine lv_iconst (v := 1) hx hb dX7_builds_46 (by decide) ?_
                refine lv_icmp_ne (tgt := 54) hx hb dX7_builds_47 (by decide) (fun c_47 => ?_) (fun c_47 => ?_)
                · skip
                  refine lv_iload hx hb dX7_builds_54 (lv_at hl 0 rfl) ?_
                  refine lv_iconst (v := 2) hx hb dX7_builds_56 (by decide) ?_
                  refine lv_icmp_ne (tgt := 64) hx hb dX7_builds_57 (by decide) (fun c_57 => ?_) (fun c_57 => ?_)
                  · exact absurd c_57 (by decide)
                  · skip
                    refine lv_iload_n hx hb dX7_builds_60 rfl (lv_at hl 6 rfl) ?_
                    refine lv_goto (tgt := 65) hx hb dX7_builds_61 (by decide) ?_
                    refine st_s X (t := 0) hJ (by omega) (j := 20 + 7 * (nn (w (5))) + 2) (rfl) (by omega) dX7_builds_65 (fun H locs hJ => ?_)
                    refine lv_iinc (v := 3) (lv' := [(6, .int 3), (5, .int (nI (360 * 0 + (20 + 7 * (nn (w (5))))))), (4, .int (nI (nn (w (5))))), (0, .ref (B + 459)), (1, .int x), (2, .int y), (3, .int z)]) hx hb dX7_builds_66 hl (k := 0) rfl (by decide) (by decide) rfl (fun ls hl => ?_)
                    refine lv_goto (tgt := 19) hx hb dX7_builds_69 (by decide) ?_
                    refine lv_iload hx hb dX7_builds_19 (lv_at hl 0 rfl) ?_
                    refine lv_bipush (v := 7) hx hb dX7_builds_21 (by decide) ?_
                    refine lv_icmp_ge (tgt := 72) hx hb dX7_builds_23 (by decide) (fun c_23 => ?_) (fun c_23 => ?_)
                    · exact absurd c_23 (by decide)
                    · skip
                      refine lv_aload_n hx hb dX7_builds_26 rfl (lv_at hl 3 rfl) ?_
                      refine gX7_7 X hJ (w := g.2.2.2) rfl dX7_builds_27 ?_
                      refine lv_iload hx hb dX7_builds_30 (lv_at hl 1 rfl) ?_
                      refine lv_iload hx hb dX7_builds_32 (lv_at hl 0 rfl) ?_
                      refine xiadd (z := nI (360 * 0 + (20 + 7 * (nn (w (5))) + 3))) hx hb dX7_builds_34 (nI_a3 0 (20 + 7 * (nn (w (5)))) 3) ?_
                      refine lv_iload hx hb dX7_builds_35 (lv_at hl 0 rfl) ?_
                      refine lv_if_ne (tgt := 44) hx hb dX7_builds_37 (by decide) (fun c_37 => ?_) (fun c_37 => ?_)
                      · skip
                        refine lv_iload hx hb dX7_builds_44 (lv_at hl 0 rfl) ?_
                        refine lv_iconst (v := 1) hx hb dX7_builds_46 (by decide) ?_
                        refine lv_icmp_ne (tgt := 54) hx hb dX7_builds_47 (by decide) (fun c_47 => ?_) (fun c_47 => ?_)
                        · skip
                          refine lv_iload hx hb dX7_builds_54 (lv_at hl 0 rfl) ?_
                          refine lv_iconst (v := 2) hx hb dX7_builds_56 (by decide) ?_
                          refine lv_icmp_ne (tgt := 64) hx hb dX7_builds_57 (by decide) (fun c_57 => ?_) (fun c_57 => ?_)
                          · skip
                            refine lv_iconst (v := 0) hx hb dX7_builds_64 (by decide) ?_
                            refine st_s X (t := 0) hJ (by omega) (j := 20 + 7 * (nn (w (5))) + 3) (rfl) (by omega) dX7_builds_65 (fun H locs hJ => ?_)
                            refine lv_iinc (v := 4) (lv' := [(6, .int 4), (5, .int (nI (360 * 0 + (20 + 7 * (nn (w (5))))))), (4, .int (nI (nn (w (5))))), (0, .ref (B + 459)), (1, .int x), (2, .int y), (3, .int z)]) hx hb dX7_builds_66 hl (k := 0) rfl (by decide) (by decide) rfl (fun ls hl => ?_)
                            refine lv_goto (tgt := 19) hx hb dX7_builds_69 (by decide) ?_
                            refine lv_iload hx hb dX7_builds_19 (lv_at hl 0 rfl) ?_
                            refine lv_bipush (v := 7) hx hb dX7_builds_21 (by decide) ?_
                            refine lv_icmp_ge (tgt := 72) hx hb dX7_builds_23 (by decide) (fun c_23 => ?_) (fun c_23 => ?_)
                            · exact absurd c_23 (by decide)
                            · skip
                              refine lv_aload_n hx hb dX7_builds_26 rfl (lv_at hl 3 rfl) ?_
                              refine gX7_7 X hJ (w := g.2.2.2) rfl dX7_builds_27 ?_
                              refine lv_iload hx hb dX7_builds_30 (lv_at hl 1 rfl) ?_
                              refine lv_iload hx hb dX7_builds_32 (lv_at hl 0 rfl) ?_
                              refine xiadd (z := nI (360 * 0 + (20 + 7 * (nn (w (5))) + 4))) hx hb dX7_builds_34 (nI_a3 0 (20 + 7 * (nn (w (5)))) 4) ?_
                              refine lv_iload hx hb dX7_builds_35 (lv_at hl 0 rfl) ?_
                              refine lv_if_ne (tgt := 44) hx hb dX7_builds_37 (by decide) (fun c_37 => ?_) (fun c_37 => ?_)
                              · skip
                                refine lv_iload hx hb dX7_builds_44 (lv_at hl 0 rfl) ?_
                                refine lv_iconst (v := 1) hx hb dX7_builds_46 (by decide) ?_
                                refine lv_icmp_ne (tgt := 54) hx hb dX7_builds_47 (by decide) (fun c_47 => ?_) (fun c_47 => ?_)
                                · skip
                                  refine lv_iload hx hb dX7_builds_54 (lv_at hl 0 rfl) ?_
                                  refine lv_iconst (v := 2) hx hb dX7_builds_56 (by decide) ?_
                                  refine lv_icmp_ne (tgt := 64) hx hb dX7_builds_57 (by decide) (fun c_57 => ?_) (fun c_57 => ?_)
                                  · skip
                                    refine lv_iconst (v := 0) hx hb dX7_builds_64 (by decide) ?_
                                    refine st_s X (t := 0) hJ (by omega) (j := 20 + 7 * (nn (w (5))) + 4) (rfl) (by omega) dX7_builds_65 (fun H locs hJ => ?_)
                                    refine lv_iinc (v := 5) (lv' := [(6, .int 5), (5, .int (nI (360 * 0 + (20 + 7 * (nn (w (5))))))), (4, .int (nI (nn (w (5))))), (0, .ref (B + 459)), (1, .int x), (2, .int y), (3, .int z)]) hx hb dX7_builds_66 hl (k := 0) rfl (by decide) (by decide) rfl (fun ls hl => ?_)
                                    refine lv_goto (tgt := 19) hx hb dX7_builds_69 (by decide) ?_
                                    refine lv_iload hx hb dX7_builds_19 (lv_at hl 0 rfl) ?_
                                    refine lv_bipush (v := 7) hx hb dX7_builds_21 (by decide) ?_
                                    refine lv_icmp_ge (tgt := 72) hx hb dX7_builds_23 (by decide) (fun c_23 => ?_) (fun c_23 => ?_)
                                    · exact absurd c_23 (by decide)
                                    · skip
                                      refine lv_aload_n hx hb dX7_builds_26 rfl (lv_at hl 3 rfl) ?_
                                      refine gX7_7 X hJ (w := g.2.2.2) rfl dX7_builds_27 ?_
                                      refine lv_iload hx hb dX7_builds_30 (lv_at hl 1 rfl) ?_
                                      refine lv_iload hx hb dX7_builds_32 (lv_at hl 0 rfl) ?_
                                      refine xiadd (z := nI (360 * 0 + (20 + 7 * (nn (w (5))) + 5))) hx hb dX7_builds_34 (nI_a3 0 (20 + 7 * (nn (w (5)))) 5) ?_
                                      refine lv_iload hx hb dX7_builds_35 (lv_at hl 0 rfl) ?_
                                      refine lv_if_ne (tgt := 44) hx hb dX7_builds_37 (by decide) (fun c_37 => ?_) (fun c_37 => ?_)
                                      · skip
                                        refine lv_iload hx hb dX7_builds_44 (lv_at hl 0 rfl) ?_
                                        refine lv_iconst (v := 1) hx hb dX7_builds_46 (by decide) ?_
                                        refine lv_icmp_ne (tgt := 54) hx hb dX7_builds_47 (by decide) (fun c_47 => ?_) (fun c_47 => ?_)
                                        · skip
                                          refine lv_iload hx hb dX7_builds_54 (lv_at hl 0 rfl) ?_
                                          refine lv_iconst (v := 2) hx hb dX7_builds_56 (by decide) ?_
                                          refine lv_icmp_ne (tgt := 64) hx hb dX7_builds_57 (by decide) (fun c_57 => ?_) (fun c_57 => ?_)
                                          · skip
                                            refine lv_iconst (v := 0) hx hb dX7_builds_64 (by decide) ?_
                                            refine st_s X (t := 0) hJ (by omega) (j := 20 + 7 * (nn (w (5))) + 5) (rfl) (by omega) dX7_builds_65 (fun H locs hJ => ?_)
                                            refine lv_iinc (v := 6) (lv' := [(6, .int 6), (5, .int (nI (360 * 0 + (20 + 7 * (nn (w (5))))))), (4, .int (nI (nn (w (5))))), (0, .ref (B + 459)), (1, .int x), (2, .int y), (3, .int z)]) hx hb dX7_builds_66 hl (k := 0) rfl (by decide) (by decide) rfl (fun ls hl => ?_)
                                            refine lv_goto (tgt := 19) hx hb dX7_builds_69 (by decide) ?_
                                            refine lv_iload hx hb dX7_builds_19 (lv_at hl 0 rfl) ?_
                                            refine lv_bipush (v := 7) hx hb dX7_builds_21 (by decide) ?_
                                            refine lv_icmp_ge (tgt := 72) hx hb dX7_builds_23 (by decide) (fun c_23 => ?_) (fun c_23 => ?_)
                                            · exact absurd c_23 (by decide)
                                            · skip
                                              refine lv_aload_n hx hb dX7_builds_26 rfl (lv_at hl 3 rfl) ?_
                                              refine gX7_7 X hJ (w := g.2.2.2) rfl dX7_builds_27 ?_
                                              refine lv_iload hx hb dX7_builds_30 (lv_at hl 1 rfl) ?_
                                              refine lv_iload hx hb dX7_builds_32 (lv_at hl 0 rfl) ?_
                                              refine xiadd (z := nI (360 * 0 + (20 + 7 * (nn (w (5))) + 6))) hx hb dX7_builds_34 (nI_a3 0 (20 + 7 * (nn (w (5)))) 6) ?_
                                              refine lv_iload hx hb dX7_builds_35 (lv_at hl 0 rfl) ?_
                                              refine lv_if_ne (tgt := 44) hx hb dX7_builds_37 (by decide) (fun c_37 => ?_) (fun c_37 => ?_)
                                              · skip
                                                refine lv_iload hx hb dX7_builds_44 (lv_at hl 0 rfl) ?_
                                                refine lv_iconst (v := 1) hx hb dX7_builds_46 (by decide) ?_
                                                refine lv_icmp_ne (tgt := 54) hx hb dX7_builds_47 (by decide) (fun c_47 => ?_) (fun c_47 => ?_)
                                                · skip
                                                  refine lv_iload hx hb dX7_builds_54 (lv_at hl 0 rfl) ?_
                                                  refine lv_iconst (v := 2) hx hb dX7_builds_56 (by decide) ?_
                                                  refine lv_icmp_ne (tgt := 64) hx hb dX7_builds_57 (by decide) (fun c_57 => ?_) (fun c_57 => ?_)
                                                  · skip
                                                    refine lv_iconst (v := 0) hx hb dX7_builds_64 (by decide) ?_
                                                    refine st_s X (t := 0) hJ (by omega) (j := 20 + 7 * (nn (w (5))) + 6) (rfl) (by omega) dX7_builds_65 (fun H locs hJ => ?_)
                                                    refine lv_iinc (v := 7) (lv' := [(6, .int 7), (5, .int (nI (360 * 0 + (20 + 7 * (nn (w (5))))))), (4, .int (nI (nn (w (5))))), (0, .ref (B + 459)), (1, .int x), (2, .int y), (3, .int z)]) hx hb dX7_builds_66 hl (k := 0) rfl (by decide) (by decide) rfl (fun ls hl => ?_)
                                                    refine lv_goto (tgt := 19) hx hb dX7_builds_69 (by decide) ?_
                                                    refine lv_iload hx hb dX7_builds_19 (lv_at hl 0 rfl) ?_
                                                    refine lv_bipush (v := 7) hx hb dX7_builds_21 (by decide) ?_
                                                    refine lv_icmp_ge (tgt := 72) hx hb dX7_builds_23 (by decide) (fun c_23 => ?_) (fun c_23 => ?_)
                                                    · skip
                                                      refine lv_aload_n hx hb dX7_builds_72 rfl (lv_at hl 3 rfl) ?_
                                                      refine gX7_7 X hJ (w := g.2.2.2) rfl dX7_builds_73 ?_
                                                      refine lv_iconst (v := 5) hx hb dX7_builds_76 (by decide) ?_
                                                      refine lv_dup2_11 hx hb dX7_builds_77 rfl rfl ?_
                                                      refine ld_s X hJ (t := 0) (w := upd (upd (upd (upd (upd (upd (upd w (20 + 7 * (nn (w (5))) + 0) x) (20 + 7 * (nn (w (5))) + 1) y) (20 + 7 * (nn (w (5))) + 2) z) (20 + 7 * (nn (w (5))) + 3) 0) (20 + 7 * (nn (w (5))) + 4) 0) (20 + 7 * (nn (w (5))) + 5) 0) (20 + 7 * (nn (w (5))) + 6) 0) (by omega) upS_1 (j := 5) (by decide) (by omega) dX7_builds_78 ?_
                                                      refine lv_iconst (v := 1) hx hb dX7_builds_79 (by decide) ?_
                                                      refine lv_iadd hx hb dX7_builds_80 ?_
                                                      refine st_s X (t := 0) hJ (by omega) (j := 5) (by decide) (by omega) dX7_builds_81 (fun H locs hJ => ?_)
                                                      refine lv_aload_n hx hb dX7_builds_82 rfl (lv_at hl 3 rfl) ?_
                                                      refine lv_iconst (v := 0) hx hb dX7_builds_83 (by decide) ?_
                                                      refine lv_iload hx hb dX7_builds_84 (lv_at hl 2 rfl) ?_
                                                      refine kX7_70 X hJ (mX7_draws l E B _ 0 (nn (w (5))) (upd (upd (upd (upd (upd (upd (upd (upd w (20 + 7 * (nn (w (5))) + 0) x) (20 + 7 * (nn (w (5))) + 1) y) (20 + 7 * (nn (w (5))) + 2) z) (20 + 7 * (nn (w (5))) + 3) 0) (20 + 7 * (nn (w (5))) + 4) 0) (20 + 7 * (nn (w (5))) + 5) 0) (20 + 7 * (nn (w (5))) + 6) 0) (5) (((upd (upd (upd (upd (upd (upd (upd w (20 + 7 * (nn (w (5))) + 0) x) (20 + 7 * (nn (w (5))) + 1) y) (20 + 7 * (nn (w (5))) + 2) z) (20 + 7 * (nn (w (5))) + 3) 0) (20 + 7 * (nn (w (5))) + 4) 0) (20 + 7 * (nn (w (5))) + 5) 0) (20 + 7 * (nn (w (5))) + 6) 0) (5)) + 1)) (by omega) (by omega) (by unfold Nz; rw [updn (by omega), updn (by omega), updn (by omega), updn (by omega), updn (by omega), upde]; exact hz)) rfl (by omega) (at_M rfl) hl.1 ⟨Nat.le_of_ble_eq_true rfl, Nat.le_of_ble_eq_true rfl⟩ ⟨Nat.le_refl _, Nat.le_refl _⟩ (rest := []) rfl (Nat.le_of_ble_eq_true rfl) dX7_builds_86 (fun H locs hJ => ?_)
                                                      refine lv_iload hx hb dX7_builds_89 (lv_at hl 2 rfl) ?_
                                                      have hs : sX7_builds w x y z = (nI (nn (w (5))), (sX7_draws (upd (upd (upd (upd (upd (upd (upd (upd w (20 + 7 * (nn (w (5))) + 0) x) (20 + 7 * (nn (w (5))) + 1) y) (20 + 7 * (nn (w (5))) + 2) z) (20 + 7 * (nn (w (5))) + 3) 0) (20 + 7 * (nn (w (5))) + 4) 0) (20 + 7 * (nn (w (5))) + 5) 0) (20 + 7 * (nn (w (5))) + 6) 0) (5) (((upd (upd (upd (upd (upd (upd (upd w (20 + 7 * (nn (w (5))) + 0) x) (20 + 7 * (nn (w (5))) + 1) y) (20 + 7 * (nn (w (5))) + 2) z) (20 + 7 * (nn (w (5))) + 3) 0) (20 + 7 * (nn (w (5))) + 4) 0) (20 + 7 * (nn (w (5))) + 5) 0) (20 + 7 * (nn (w (5))) + 6) 0) (5)) + 1)) (nn (w (5))))) := by unfold sX7_builds; rfl
                                                      exact fin (by rw [hs]; dsimp only; exact hJ) (by rw [hs]) dX7_builds_91
                                                    · exact absurd c_23 (by decide)
                                                  · exact absurd c_57 (by decide)
                                                · exact absurd c_47 (by decide)
                                              · exact absurd c_37 (by decide)
                                          · exact absurd c_57 (by decide)
                                        · exact absurd c_47 (by decide)
                                      · exact absurd c_37 (by decide)
                                  · exact absurd c_57 (by decide)
                                · exact absurd c_47 (by decide)
                              · exact absurd c_37 (by decide)
                          · exact absurd c_57 (by decide)
                        · exact absurd c_47 (by decide)
                      · exact absurd c_37 (by decide)
                · exact absurd c_47 (by decide)
              · exact absurd c_37 (by decide)
        · exact absurd c_37 (by decide)

def bX7_comes_81  (x : Int32) (y : Int32) : Nat → Row → Nat → Nat → Int32 × Row
  | 0, w81, _, _ => (0, w81)
  | n + 1, w81, q, p => if w81 (5) ≤ nI p then ((nI q, upd (upd w81 (6) ((w81 (6)) + 1)) (8) (((upd w81 (6) ((w81 (6)) + 1)) (8)) + y))) else (bX7_comes_81 x y n (upd (upd w81 (168 + 2 * (12 * q + p)) 0) (168 + 2 * (12 * q + p) + 1) (((upd w81 (168 + 2 * (12 * q + p)) 0) (20 + 7 * p + 2)) - 1)) q (p + 1))
def sX7_comes (w : Row) (x : Int32) (y : Int32) : Int32 × Row := bX7_comes_81 x y 13 (upd (upd (upd (upd (upd (upd (upd (upd w (104 + 8 * (nn (w (6))) + 0) x) (104 + 8 * (nn (w (6))) + 1) y) (104 + 8 * (nn (w (6))) + 2) (-6)) (104 + 8 * (nn (w (6))) + 3) (-6)) (104 + 8 * (nn (w (6))) + 4) 0) (104 + 8 * (nn (w (6))) + 5) 0) (104 + 8 * (nn (w (6))) + 6) 0) (104 + 8 * (nn (w (6))) + 7) 0) (nn (w (6))) 0
set_option maxHeartbeats 4000000 in
set_option maxRecDepth 100000 in
theorem mX7_comes (l : Launch) (E : EE) (B : Nat) (g : GS) (x : Int32) (y : Int32) (w : Row)  (hrn : Rn w) (hq6 : nn (w (6)) < 8) : CG l yX7_comes cX7_comes 6 (some .int) 1 22 E B [.ref (B + 459), .int x, .int y] (upS g 0 w) (some (.int (sX7_comes w x y).1)) (upS g 0 ((sX7_comes w x y).2)) := by
  refine mkI (own := RX7) (ty := .int) rfl (by decide) rfl (rfl) (Nat.le_of_ble_eq_true rfl) (fun P_ e_ s_ m_ a_ below meth cd Q X fin ls hl hJ => ?_)
  have hx := X.1
  have hb := X.2.1
  have hl : lv_has ls 6 [(0, .ref (B + 459)), (1, .int x), (2, .int y)] := hl
  have bk_81 : ∀ (n : Nat) (w81 : Row)  (q : Nat)  (p : Nat), 12 - p < n → (Rn w81) → (q < 8) → (p ≤ 12) → ∀ (H : Heap) (locs : List Loc) (ls : Array Slot), JG E B s_ (upS g 0 w81) H locs → lv_has ls 6 [(0, .ref (B + 459)), (1, .int x), (2, .int y), (3, .int (nI q)), (5, .int (nI p))] → sX7_comes w x y = bX7_comes_81 x y n w81 q p → W P_ l e_ (rmm 1 22 0 0) s_ m_ a_ below meth cd H locs 0 0 Q (F0 m_ 81 ls []) := by
    intro n
    induction n with
    | zero => intro w81 q p hm; exact absurd hm (Nat.not_lt_zero _)
    | succ n ih =>
      intro w81 q p hm hrn hqq hp H locs ls hJ hl hs
      refine lv_iload hx hb dX7_comes_81 (lv_at hl 4 rfl) ?_
      refine lv_aload_n hx hb dX7_comes_83 rfl (lv_at hl 0 rfl) ?_
      refine gX7_7 X hJ (w := g.2.2.2) rfl dX7_comes_84 ?_
      refine lv_iconst (v := 5) hx hb dX7_comes_87 (by decide) ?_
      refine ld_s X hJ (t := 0) (w := w81) (by omega) upS_1 (j := 5) (by decide) (by omega) dX7_comes_88 ?_
      refine lv_icmp_ge (tgt := 140) hx hb dX7_comes_89 (by decide) (fun c_89 => ?_) (fun c_89 => ?_)
      · skip
        refine lv_aload_n hx hb dX7_comes_140 rfl (lv_at hl 0 rfl) ?_
        refine gX7_7 X hJ (w := g.2.2.2) rfl dX7_comes_141 ?_
        refine lv_bipush (v := 6) hx hb dX7_comes_144 (by decide) ?_
        refine lv_dup2_11 hx hb dX7_comes_146 rfl rfl ?_
        refine ld_s X hJ (t := 0) (w := w81) (by omega) upS_1 (j := 6) (by decide) (by omega) dX7_comes_147 ?_
        refine lv_iconst (v := 1) hx hb dX7_comes_148 (by decide) ?_
        refine lv_iadd hx hb dX7_comes_149 ?_
        refine st_s X (t := 0) hJ (by omega) (j := 6) (by decide) (by omega) dX7_comes_150 (fun H locs hJ => ?_)
        refine lv_aload_n hx hb dX7_comes_151 rfl (lv_at hl 0 rfl) ?_
        refine gX7_7 X hJ (w := g.2.2.2) rfl dX7_comes_152 ?_
        refine lv_bipush (v := 8) hx hb dX7_comes_155 (by decide) ?_
        refine lv_dup2_11 hx hb dX7_comes_157 rfl rfl ?_
        refine ld_s X hJ (t := 0) (w := upd w81 (6) ((w81 (6)) + 1)) (by omega) upS_1 (j := 8) (by decide) (by omega) dX7_comes_158 ?_
        refine lv_iload_n hx hb dX7_comes_159 rfl (lv_at hl 2 rfl) ?_
        refine lv_iadd hx hb dX7_comes_160 ?_
        refine st_s X (t := 0) hJ (by omega) (j := 8) (by decide) (by omega) dX7_comes_161 (fun H locs hJ => ?_)
        refine lv_iload_n hx hb dX7_comes_162 rfl (lv_at hl 3 rfl) ?_
        have hs : sX7_comes w x y = (nI q, upd (upd w81 (6) ((w81 (6)) + 1)) (8) (((upd w81 (6) ((w81 (6)) + 1)) (8)) + y)) := hs.trans (by rw [bX7_comes_81, if_pos c_89])
        exact fin (by rw [hs]; dsimp only; exact hJ) (by rw [hs]) dX7_comes_163
      · skip
        have hp2 := hrn.1.lt5 (by omega) c_89
        refine lv_aload_n hx hb dX7_comes_92 rfl (lv_at hl 0 rfl) ?_
        refine gX7_7 X hJ (w := g.2.2.2) rfl dX7_comes_93 ?_
        refine lv_iconst (v := 0) hx hb dX7_comes_96 (by decide) ?_
        refine lv_iload_n hx hb dX7_comes_97 rfl (lv_at hl 3 rfl) ?_
        refine lv_iload hx hb dX7_comes_98 (lv_at hl 4 rfl) ?_
        refine kX7_36 X hJ (qX7_rangeAt l E B _ 0 q p) rfl hl.1 ⟨Nat.le_of_ble_eq_true rfl, Nat.le_of_ble_eq_true rfl⟩ ⟨Nat.le_refl _, Nat.le_refl _⟩ (rest := [.ref (B + 460)]) rfl (Nat.le_of_ble_eq_true rfl) dX7_comes_100 (fun H locs hJ => ?_)
        refine lv_iconst (v := 0) hx hb dX7_comes_103 (by decide) ?_
        refine st_s X (t := 0) hJ (by omega) (j := 168 + 2 * (12 * q + p)) (rfl) (by omega) dX7_comes_104 (fun H locs hJ => ?_)
        refine lv_aload_n hx hb dX7_comes_105 rfl (lv_at hl 0 rfl) ?_
        refine gX7_7 X hJ (w := g.2.2.2) rfl dX7_comes_106 ?_
        refine lv_iconst (v := 0) hx hb dX7_comes_109 (by decide) ?_
        refine lv_iload_n hx hb dX7_comes_110 rfl (lv_at hl 3 rfl) ?_
        refine lv_iload hx hb dX7_comes_111 (lv_at hl 4 rfl) ?_
        refine kX7_36 X hJ (qX7_rangeAt l E B _ 0 q p) rfl hl.1 ⟨Nat.le_of_ble_eq_true rfl, Nat.le_of_ble_eq_true rfl⟩ ⟨Nat.le_refl _, Nat.le_refl _⟩ (rest := [.ref (B + 460)]) rfl (Nat.le_of_ble_eq_true rfl) dX7_comes_113 (fun H locs hJ => ?_)
        refine lv_iconst (v := 1) hx hb dX7_comes_116 (by decide) ?_
        refine xiadd (z := nI (360 * 0 + (168 + 2 * (12 * q + p) + 1))) hx hb dX7_comes_117 (nI_a3 0 (168 + 2 * (12 * q + p)) 1) ?_
        refine lv_aload_n hx hb dX7_comes_118 rfl (lv_at hl 0 rfl) ?_
        refine gX7_7 X hJ (w := g.2.2.2) rfl dX7_comes_119 ?_
        refine lv_iconst (v := 0) hx hb dX7_comes_122 (by decide) ?_
        refine lv_iload hx hb dX7_comes_123 (lv_at hl 4 rfl) ?_
        refine kX7_31 X hJ (qX7_bridgeAt l E B _ 0 p) rfl hl.1 ⟨Nat.le_of_ble_eq_true rfl, Nat.le_of_ble_eq_true rfl⟩ ⟨Nat.le_refl _, Nat.le_refl _⟩ (rest := [.ref (B + 460), .int (nI (360 * 0 + (168 + 2 * (12 * q + p) + 1))), .ref (B + 460)]) rfl (Nat.le_of_ble_eq_true rfl) dX7_comes_125 (fun H locs hJ => ?_)
        refine lv_iconst (v := 2) hx hb dX7_comes_128 (by decide) ?_
        refine xiadd (z := nI (360 * 0 + (20 + 7 * p + 2))) hx hb dX7_comes_129 (nI_a3 0 (20 + 7 * p) 2) ?_
        refine ld_s X hJ (t := 0) (w := upd w81 (168 + 2 * (12 * q + p)) 0) (by omega) upS_1 (j := 20 + 7 * p + 2) (rfl) (by omega) dX7_comes_130 ?_
        refine lv_iconst (v := 1) hx hb dX7_comes_131 (by decide) ?_
        refine lv_isub hx hb dX7_comes_132 ?_
        refine st_s X (t := 0) hJ (by omega) (j := 168 + 2 * (12 * q + p) + 1) (rfl) (by omega) dX7_comes_133 (fun H locs hJ => ?_)
        refine lv_iinc (v := nI (p + 1)) (lv' := [(5, .int (nI (p + 1))), (0, .ref (B + 459)), (1, .int x), (2, .int y), (3, .int (nI q))]) hx hb dX7_comes_134 hl (k := 4) rfl (by first | exact nI_add _ _ | rfl) (by decide) rfl (fun ls hl => ?_)
        refine lv_goto (tgt := 81) hx hb dX7_comes_137 (by decide) ?_
        have hs : sX7_comes w x y = bX7_comes_81 x y n (upd (upd w81 (168 + 2 * (12 * q + p)) 0) (168 + 2 * (12 * q + p) + 1) (((upd w81 (168 + 2 * (12 * q + p)) 0) (20 + 7 * p + 2)) - 1)) q (p + 1) := hs.trans (by rw [bX7_comes_81, if_neg c_89])
        exact ih (upd (upd w81 (168 + 2 * (12 * q + p)) 0) (168 + 2 * (12 * q + p) + 1) (((upd w81 (168 + 2 * (12 * q + p)) 0) (20 + 7 * p + 2)) - 1)) q (p + 1) (by omega) (Rn_upd (by unfold bad; omega) (Rn_upd (by unfold bad; omega) (hrn))) (hqq) (by omega) _ _ _ hJ (lv_sub hl [1, 2, 3, 4, 0] rfl) hs
  refine lv_aload_n hx hb dX7_comes_0 rfl (lv_at hl 0 rfl) ?_
  refine gX7_7 X hJ (w := g.2.2.2) rfl dX7_comes_1 ?_
  refine lv_bipush (v := 6) hx hb dX7_comes_4 (by decide) ?_
  refine ld_s X hJ (t := 0) (w := w) (by omega) upS_1 (j := 6) (by decide) (by omega) dX7_comes_6 ?_
  refine cvt (y := nI (nn (w (6)))) (hrn.1.2.2.eq) ?_
  refine lv_istore_n (lv' := [(3, .int (nI (nn (w (6))))), (0, .ref (B + 459)), (1, .int x), (2, .int y)]) hx hb dX7_comes_7 rfl hl (by decide) rfl (fun ls hl => ?_)
  refine lv_iconst (v := 0) hx hb dX7_comes_8 (by decide) ?_
  refine lv_iload_n hx hb dX7_comes_9 rfl (lv_at hl 0 rfl) ?_
  refine kX7_40 X hJ (qX7_cartAt l E B _ 0 (nn (w (6)))) rfl hl.1 ⟨Nat.le_of_ble_eq_true rfl, Nat.le_of_ble_eq_true rfl⟩ ⟨Nat.le_refl _, Nat.le_refl _⟩ (rest := []) rfl (Nat.le_of_ble_eq_true rfl) dX7_comes_10 (fun H locs hJ => ?_)
  refine lv_istore (lv' := [(4, .int (nI (360 * 0 + (104 + 8 * (nn (w (6))))))), (3, .int (nI (nn (w (6))))), (0, .ref (B + 459)), (1, .int x), (2, .int y)]) hx hb dX7_comes_13 hl (by decide) rfl (fun ls hl => ?_)
  refine lv_iconst (v := 0) hx hb dX7_comes_15 (by decide) ?_
  refine lv_istore (lv' := [(5, .int 0), (4, .int (nI (360 * 0 + (104 + 8 * (nn (w (6))))))), (3, .int (nI (nn (w (6))))), (0, .ref (B + 459)), (1, .int x), (2, .int y)]) hx hb dX7_comes_16 hl (by decide) rfl (fun ls hl => ?_)
  refine lv_iload hx hb dX7_comes_18 (lv_at hl 0 rfl) ?_
  refine lv_bipush (v := 8) hx hb dX7_comes_20 (by decide) ?_
  refine lv_icmp_ge (tgt := 78) hx hb dX7_comes_22 (by decide) (fun c_22 => ?_) (fun c_22 => ?_)
  · exact absurd c_22 (by decide)
  · skip
    refine lv_aload_n hx hb dX7_comes_25 rfl (lv_at hl 3 rfl) ?_
    refine gX7_7 X hJ (w := g.2.2.2) rfl dX7_comes_26 ?_
    refine lv_iload hx hb dX7_comes_29 (lv_at hl 1 rfl) ?_
    refine lv_iload hx hb dX7_comes_31 (lv_at hl 0 rfl) ?_
    refine xiadd (z := nI (360 * 0 + (104 + 8 * (nn (w (6))) + 0))) hx hb dX7_comes_33 (nI_a3 0 (104 + 8 * (nn (w (6)))) 0) ?_
    refine lv_iload hx hb dX7_comes_34 (lv_at hl 0 rfl) ?_
    refine lv_if_ne (tgt := 43) hx hb dX7_comes_36 (by decide) (fun c_36 => ?_) (fun c_36 => ?_)
    · exact absurd c_36 (by decide)
    · skip
      refine lv_iload_n hx hb dX7_comes_39 rfl (lv_at hl 4 rfl) ?_
      refine lv_goto (tgt := 71) hx hb dX7_comes_40 (by decide) ?_
      refine st_s X (t := 0) hJ (by omega) (j := 104 + 8 * (nn (w (6))) + 0) (rfl) (by omega) dX7_comes_71 (fun H locs hJ => ?_)
      refine lv_iinc (v := 1) (lv' := [(5, .int 1), (4, .int (nI (360 * 0 + (104 + 8 * (nn (w (6))))))), (3, .int (nI (nn (w (6))))), (0, .ref (B + 459)), (1, .int x), (2, .int y)]) hx hb dX7_comes_72 hl (k := 0) rfl (by decide) (by decide) rfl (fun ls hl => ?_)
      refine lv_goto (tgt := 18) hx hb dX7_comes_75 (by decide) ?_
      refine lv_iload hx hb dX7_comes_18 (lv_at hl 0 rfl) ?_
      refine lv_bipush (v := 8) hx hb dX7_comes_20 (by decide) ?_
      refine lv_icmp_ge (tgt := 78) hx hb dX7_comes_22 (by decide) (fun c_22 => ?_) (fun c_22 => ?_)
      · exact absurd c_22 (by decide)
      · skip
        refine lv_aload_n hx hb dX7_comes_25 rfl (lv_at hl 3 rfl) ?_
        refine gX7_7 X hJ (w := g.2.2.2) rfl dX7_comes_26 ?_
        refine lv_iload hx hb dX7_comes_29 (lv_at hl 1 rfl) ?_
        refine lv_iload hx hb dX7_comes_31 (lv_at hl 0 rfl) ?_
        refine xiadd (z := nI (360 * 0 + (104 + 8 * (nn (w (6))) + 1))) hx hb dX7_comes_33 (nI_a3 0 (104 + 8 * (nn (w (6)))) 1) ?_
        refine lv_iload hx hb dX7_comes_34 (lv_at hl 0 rfl) ?_
        refine lv_if_ne (tgt := 43) hx hb dX7_comes_36 (by decide) (fun c_36 => ?_) (fun c_36 => ?_)
        · skip
          refine lv_iload hx hb dX7_comes_43 (lv_at hl 0 rfl) ?_
          refine lv_iconst (v := 1) hx hb dX7_comes_45 (by decide) ?_
          refine lv_icmp_ne (tgt := 53) hx hb dX7_comes_46 (by decide) (fun c_46 => ?_) (fun c_46 => ?_)
          · exact absurd c_46 (by decide)
          · skip
            refine lv_iload_n hx hb dX7_comes_49 rfl (lv_at hl 5 rfl) ?_
            refine lv_goto (tgt := 71) hx hb dX7_comes_50 (by decide) ?_
            refine st_s X (t := 0) hJ (by omega) (j := 104 + 8 * (nn (w (6))) + 1) (rfl) (by omega) dX7_comes_71 (fun H locs hJ => ?_)
            refine lv_iinc (v := 2) (lv' := [(5, .int 2), (4, .int (nI (360 * 0 + (104 + 8 * (nn (w (6))))))), (3, .int (nI (nn (w (6))))), (0, .ref (B + 459)), (1, .int x), (2, .int y)]) hx hb dX7_comes_72 hl (k := 0) rfl (by decide) (by decide) rfl (fun ls hl => ?_)
            refine lv_goto (tgt := 18) hx hb dX7_comes_75 (by decide) ?_
            refine lv_iload hx hb dX7_comes_18 (lv_at hl 0 rfl) ?_
            refine lv_bipush (v := 8) hx hb dX7_comes_20 (by decide) ?_
            refine lv_icmp_ge (tgt := 78) hx hb dX7_comes_22 (by decide) (fun c_22 => ?_) (fun c_22 => ?_)
            · exact absurd c_22 (by decide)
            · skip
              refine lv_aload_n hx hb dX7_comes_25 rfl (lv_at hl 3 rfl) ?_
              refine gX7_7 X hJ (w := g.2.2.2) rfl dX7_comes_26 ?_
              refine lv_iload hx hb dX7_comes_29 (lv_at hl 1 rfl) ?_
              refine lv_iload hx hb dX7_comes_31 (lv_at hl 0 rfl) ?_
              refine xiadd (z := nI (360 * 0 + (104 + 8 * (nn (w (6))) + 2))) hx hb dX7_comes_33 (nI_a3 0 (104 + 8 * (nn (w (6)))) 2) ?_
              refine lv_iload hx hb dX7_comes_34 (lv_at hl 0 rfl) ?_
              refine lv_if_ne (tgt := 43) hx hb dX7_comes_36 (by decide) (fun c_36 => ?_) (fun c_36 => ?_)
              · skip
                refine lv_iload hx hb dX7_comes_43 (lv_at hl 0 rfl) ?_
                refine lv_iconst (v := 1) hx hb dX7_comes_45 (by decide) ?_
                refine lv_icmp_ne (tgt := 53) hx hb dX7_comes_46 (by decide) (fun c_46 => ?_) (fun c_46 => ?_)
                · skip
                  refine lv_iload hx hb dX7_comes_53 (lv_at hl 0 rfl) ?_
                  refine lv_iconst (v := 2) hx hb dX7_comes_55 (by decide) ?_
                  refine lv_icmp_eq (tgt := 65) hx hb dX7_comes_56 (by decide) (fun c_56 => ?_) (fun c_56 => ?_)
                  · skip
                    refine lv_bipush (v := (-6)) hx hb dX7_comes_65 (by decide) ?_
                    refine lv_goto (tgt := 71) hx hb dX7_comes_67 (by decide) ?_
                    refine st_s X (t := 0) hJ (by omega) (j := 104 + 8 * (nn (w (6))) + 2) (rfl) (by omega) dX7_comes_71 (fun H locs hJ => ?_)
                    refine lv_iinc (v := 3) (lv' := [(5, .int 3), (4, .int (nI (360 * 0 + (104 + 8 * (nn (w (6))))))), (3, .int (nI (nn (w (6))))), (0, .ref (B + 459)), (1, .int x), (2, .int y)]) hx hb dX7_comes_72 hl (k := 0) rfl (by decide) (by decide) rfl (fun ls hl => ?_)
                    refine lv_goto (tgt := 18) hx hb dX7_comes_75 (by decide) ?_
                    refine lv_iload hx hb dX7_comes_18 (lv_at hl 0 rfl) ?_
                    refine lv_bipush (v := 8) hx hb dX7_comes_20 (by decide) ?_
                    refine lv_icmp_ge (tgt := 78) hx hb dX7_comes_22 (by decide) (fun c_22 => ?_) (fun c_22 => ?_)
                    · exact absurd c_22 (by decide)
                    · skip
                      refine lv_aload_n hx hb dX7_comes_25 rfl (lv_at hl 3 rfl) ?_
                      refine gX7_7 X hJ (w := g.2.2.2) rfl dX7_comes_26 ?_
                      refine lv_iload hx hb dX7_comes_29 (lv_at hl 1 rfl) ?_
                      refine lv_iload hx hb dX7_comes_31 (lv_at hl 0 rfl) ?_
                      refine xiadd (z := nI (360 * 0 + (104 + 8 * (nn (w (6))) + 3))) hx hb dX7_comes_33 (nI_a3 0 (104 + 8 * (nn (w (6)))) 3) ?_
                      refine lv_iload hx hb dX7_comes_34 (lv_at hl 0 rfl) ?_
                      refine lv_if_ne (tgt := 43) hx hb dX7_comes_36 (by decide) (fun c_36 => ?_) (fun c_36 => ?_)
                      · skip
                        refine lv_iload hx hb dX7_comes_43 (lv_at hl 0 rfl) ?_
                        refine lv_iconst (v := 1) hx hb dX7_comes_45 (by decide) ?_
                        refine lv_icmp_ne (tgt := 53) hx hb dX7_comes_46 (by decide) (fun c_46 => ?_) (fun c_46 => ?_)
                        · skip
                          refine lv_iload hx hb dX7_comes_53 (lv_at hl 0 rfl) ?_
                          refine lv_iconst (v := 2) hx hb dX7_comes_55 (by decide) ?_
                          refine lv_icmp_eq (tgt := 65) hx hb dX7_comes_56 (by decide) (fun c_56 => ?_) (fun c_56 => ?_)
                          · exact absurd c_56 (by decide)
                          · skip
                            refine lv_iload hx hb dX7_comes_59 (lv_at hl 0 rfl) ?_
                            refine lv_iconst (v := 3) hx hb dX7_comes_61 (by decide) ?_
                            refine lv_icmp_ne (tgt := 70) hx hb dX7_comes_62 (by decide) (fun c_62 => ?_) (fun c_62 => ?_)
                            · exact absurd c_62 (by decide)
                            · skip
                              refine lv_bipush (v := (-6)) hx hb dX7_comes_65 (by decide) ?_
                              refine lv_goto (tgt := 71) hx hb dX7_comes_67 (by decide) ?_
                              refine st_s X (t := 0) hJ (by omega) (j := 104 + 8 * (nn (w (6))) + 3) (rfl) (by omega) dX7_comes_71 (fun H locs hJ => ?_)
                              refine lv_iinc (v := 4) (lv' := [(5, .int 4), (4, .int (nI (360 * 0 + (104 + 8 * (nn (w (6))))))), (3, .int (nI (nn (w (6))))), (0, .ref (B + 459)), (1, .int x), (2, .int y)]) hx hb dX7_comes_72 hl (k := 0) rfl (by decide) (by decide) rfl (fun ls hl => ?_)
                              refine lv_goto (tgt := 18) hx hb dX7_comes_75 (by decide) ?_
                              refine lv_iload hx hb dX7_comes_18 (lv_at hl 0 rfl) ?_
                              refine lv_bipush (v := 8) hx hb dX7_comes_20 (by decide) ?_
                              refine lv_icmp_ge (tgt := 78) hx hb dX7_comes_22 (by decide) (fun c_22 => ?_) (fun c_22 => ?_)
                              · exact absurd c_22 (by decide)
                              · skip
                                refine lv_aload_n hx hb dX7_comes_25 rfl (lv_at hl 3 rfl) ?_
                                refine gX7_7 X hJ (w := g.2.2.2) rfl dX7_comes_26 ?_
                                refine lv_iload hx hb dX7_comes_29 (lv_at hl 1 rfl) ?_
                                refine lv_iload hx hb dX7_comes_31 (lv_at hl 0 rfl) ?_
                                refine xiadd (z := nI (360 * 0 + (104 + 8 * (nn (w (6))) + 4))) hx hb dX7_comes_33 (nI_a3 0 (104 + 8 * (nn (w (6)))) 4) ?_
                                refine lv_iload hx hb dX7_comes_34 (lv_at hl 0 rfl) ?_
                                refine lv_if_ne (tgt := 43) hx hb dX7_comes_36 (by decide) (fun c_36 => ?_) (fun c_36 => ?_)
                                · skip
                                  refine lv_iload hx hb dX7_comes_43 (lv_at hl 0 rfl) ?_
                                  refine lv_iconst (v := 1) hx hb dX7_comes_45 (by decide) ?_
                                  refine lv_icmp_ne (tgt := 53) hx hb dX7_comes_46 (by decide) (fun c_46 => ?_) (fun c_46 => ?_)
                                  · skip
                                    refine lv_iload hx hb dX7_comes_53 (lv_at hl 0 rfl) ?_
                                    refine lv_iconst (v := 2) hx hb dX7_comes_55 (by decide) ?_
                                    refine lv_icmp_eq (tgt := 65) hx hb dX7_comes_56 (by decide) (fun c_56 => ?_) (fun c_56 => ?_)
                                    · exact absurd c_56 (by decide)
                                    · skip
                                      refine lv_iload hx hb dX7_comes_59 (lv_at hl 0 rfl) ?_
                                      refine lv_iconst (v := 3) hx hb dX7_comes_61 (by decide) ?_
                                      refine lv_icmp_ne (tgt := 70) hx hb dX7_comes_62 (by decide) (fun c_62 => ?_) (fun c_62 => ?_)
                                      · skip
                                        refine lv_iconst (v := 0) hx hb dX7_comes_70 (by decide) ?_
                                        refine st_s X (t := 0) hJ (by omega) (j := 104 + 8 * (nn (w (6))) + 4) (rfl) (by omega) dX7_comes_71 (fun H locs hJ => ?_)
                                        refine lv_iinc (v := 5) (lv' := [(5, .int 5), (4, .int (nI (360 * 0 + (104 + 8 * (nn (w (6))))))), (3, .int (nI (nn (w (6))))), (0, .ref (B + 459)), (1, .int x), (2, .int y)]) hx hb dX7_comes_72 hl (k := 0) rfl (by decide) (by decide) rfl (fun ls hl => ?_)
                                        refine lv_goto (tgt := 18) hx hb dX7_comes_75 (by decide) ?_
                                        refine lv_iload hx hb dX7_comes_18 (lv_at hl 0 rfl) ?_
                                        refine lv_bipush (v := 8) hx hb dX7_comes_20 (by decide) ?_
                                        refine lv_icmp_ge (tgt := 78) hx hb dX7_comes_22 (by decide) (fun c_22 => ?_) (fun c_22 => ?_)
                                        · exact absurd c_22 (by decide)
                                        · skip
                                          refine lv_aload_n hx hb dX7_comes_25 rfl (lv_at hl 3 rfl) ?_
                                          refine gX7_7 X hJ (w := g.2.2.2) rfl dX7_comes_26 ?_
                                          refine lv_iload hx hb dX7_comes_29 (lv_at hl 1 rfl) ?_
                                          refine lv_iload hx hb dX7_comes_31 (lv_at hl 0 rfl) ?_
                                          refine xiadd (z := nI (360 * 0 + (104 + 8 * (nn (w (6))) + 5))) hx hb dX7_comes_33 (nI_a3 0 (104 + 8 * (nn (w (6)))) 5) ?_
                                          refine lv_iload hx hb dX7_comes_34 (lv_at hl 0 rfl) ?_
                                          refine lv_if_ne (tgt := 43) hx hb dX7_comes_36 (by decide) (fun c_36 => ?_) (fun c_36 => ?_)
                                          · skip
                                            refine lv_iload hx hb dX7_comes_43 (lv_at hl 0 rfl) ?_
                                            refine lv_iconst (v := 1) hx hb dX7_comes_45 (by decide) ?_
                                            refine lv_icmp_ne (tgt := 53) hx hb dX7_comes_46 (by decide) (fun c_46 => ?_) (fun c_46 => ?_)
                                            · skip
                                              refine lv_iload hx hb dX7_comes_53 (lv_at hl 0 rfl) ?_
                                              refine lv_iconst (v := 2) hx hb dX7_comes_55 (by decide) ?_
                                              refine lv_icmp_eq (tgt := 65) hx hb dX7_comes_56 (by decide) (fun c_56 => ?_) (fun c_56 => ?_)
                                              · exact absurd c_56 (by decide)
                                              · skip
                                                refine lv_iload hx hb dX7_comes_59 (lv_at hl 0 rfl) ?_
                                                refine lv_iconst (v := 3) hx hb dX7_comes_61 (by decide) ?_
                                                refine lv_icmp_ne (tgt := 70) hx hb dX7_comes_62 (by decide) (fun c_62 => ?_) (fun c_62 => ?_)
                                                · skip
                                                  refine lv_iconst (v := 0) hx hb dX7_comes_70 (by decide) ?_
                                                  refine st_s X (t := 0) hJ (by omega) (j := 104 + 8 * (nn (w (6))) + 5) (rfl) (by omega) dX7_comes_71 (fun H locs hJ => ?_)
                                                  refine lv_iinc (v := 6) (lv' := [(5, .int 6), (4, .int (nI (360 * 0 + (104 + 8 * (nn (w (6))))))), (3, .int (nI (nn (w (6))))), (0, .ref (B + 459)), (1, .int x), (2, .int y)]) hx hb dX7_comes_72 hl (k := 0) rfl (by decide) (by decide) rfl (fun ls hl => ?_)
                                                  refine lv_goto (tgt := 18) hx hb dX7_comes_75 (by decide) ?_
                                                  refine lv_iload hx hb dX7_comes_18 (lv_at hl 0 rfl) ?_
                                                  refine lv_bipush (v := 8) hx hb dX7_comes_20 (by decide) ?_
                                                  refine lv_icmp_ge (tgt := 78) hx hb dX7_comes_22 (by decide) (fun c_22 => ?_) (fun c_22 => ?_)
                                                  · exact absurd c_22 (by decide)
                                                  · skip
                                                    refine lv_aload_n hx hb dX7_comes_25 rfl (lv_at hl 3 rfl) ?_
                                                    refine gX7_7 X hJ (w := g.2.2.2) rfl dX7_comes_26 ?_
                                                    refine lv_iload hx hb dX7_comes_29 (lv_at hl 1 rfl) ?_
                                                    refine lv_iload hx hb dX7_comes_31 (lv_at hl 0 rfl) ?_
                                                    refine xiadd (z := nI (360 * 0 + (104 + 8 * (nn (w (6))) + 6))) hx hb dX7_comes_33 (nI_a3 0 (104 + 8 * (nn (w (6)))) 6) ?_
                                                    refine lv_iload hx hb dX7_comes_34 (lv_at hl 0 rfl) ?_
                                                    refine lv_if_ne (tgt := 43) hx hb dX7_comes_36 (by decide) (fun c_36 => ?_) (fun c_36 => ?_)
                                                    · skip
                                                      refine lv_iload hx hb dX7_comes_43 (lv_at hl 0 rfl) ?_
                                                      refine lv_iconst (v := 1) hx hb dX7_comes_45 (by decide) ?_
                                                      refine lv_icmp_ne (tgt := 53) hx hb dX7_comes_46 (by decide) (fun c_46 => ?_) (fun c_46 => ?_)
                                                      · skip
                                                        refine lv_iload hx hb dX7_comes_53 (lv_at hl 0 rfl) ?_
                                                        refine lv_iconst (v := 2) hx hb dX7_comes_55 (by decide) ?_
                                                        refine lv_icmp_eq (tgt := 65) hx hb dX7_comes_56 (by decide) (fun c_56 => ?_) (fun c_56 => ?_)
                                                        · exact absurd c_56 (by decide)
                                                        · skip
                                                          refine lv_iload hx hb dX7_comes_59 (lv_at hl 0 rfl) ?_
                                                          refine lv_iconst (v := 3) hx hb dX7_comes_61 (by decide) ?_
                                                          refine lv_icmp_ne (tgt := 70) hx hb dX7_comes_62 (by decide) (fun c_62 => ?_) (fun c_62 => ?_)
                                                          · skip
                                                            refine lv_iconst (v := 0) hx hb dX7_comes_70 (by decide) ?_
                                                            refine st_s X (t := 0) hJ (by omega) (j := 104 + 8 * (nn (w (6))) + 6) (rfl) (by omega) dX7_comes_71 (fun H locs hJ => ?_)
                                                            refine lv_iinc (v := 7) (lv' := [(5, .int 7), (4, .int (nI (360 * 0 + (104 + 8 * (nn (w (6))))))), (3, .int (nI (nn (w (6))))), (0, .ref (B + 459)), (1, .int x), (2, .int y)]) hx hb dX7_comes_72 hl (k := 0) rfl (by decide) (by decide) rfl (fun ls hl => ?_)
                                                            refine lv_goto (tgt := 18) hx hb dX7_comes_75 (by decide) ?_
                                                            refine lv_iload hx hb dX7_comes_18 (lv_at hl 0 rfl) ?_
                                                            refine lv_bipush (v := 8) hx hb dX7_comes_20 (by decide) ?_
                                                            refine lv_icmp_ge (tgt := 78) hx hb dX7_comes_22 (by decide) (fun c_22 => ?_) (fun c_22 => ?_)
                                                            · exact absurd c_22 (by decide)
                                                            · skip
                                                              refine lv_aload_n hx hb dX7_comes_25 rfl (lv_at hl 3 rfl) ?_
                                                              refine gX7_7 X hJ (w := g.2.2.2) rfl dX7_comes_26 ?_
                                                              refine lv_iload hx hb dX7_comes_29 (lv_at hl 1 rfl) ?_
                                                              refine lv_iload hx hb dX7_comes_31 (lv_at hl 0 rfl) ?_
                                                              refine xiadd (z := nI (360 * 0 + (104 + 8 * (nn (w (6))) + 7))) hx hb dX7_comes_33 (nI_a3 0 (104 + 8 * (nn (w (6)))) 7) ?_
                                                              refine lv_iload hx hb dX7_comes_34 (lv_at hl 0 rfl) ?_
                                                              refine lv_if_ne (tgt := 43) hx hb dX7_comes_36 (by decide) (fun c_36 => ?_) (fun c_36 => ?_)
                                                              · skip
                                                                refine lv_iload hx hb dX7_comes_43 (lv_at hl 0 rfl) ?_
                                                                refine lv_iconst (v := 1) hx hb dX7_comes_45 (by decide) ?_
                                                                refine lv_icmp_ne (tgt := 53) hx hb dX7_comes_46 (by decide) (fun c_46 => ?_) (fun c_46 => ?_)
                                                                · skip
                                                                  refine lv_iload hx hb dX7_comes_53 (lv_at hl 0 rfl) ?_
                                                                  refine lv_iconst (v := 2) hx hb dX7_comes_55 (by decide) ?_
                                                                  refine lv_icmp_eq (tgt := 65) hx hb dX7_comes_56 (by decide) (fun c_56 => ?_) (fun c_56 => ?_)
                                                                  · exact absurd c_56 (by decide)
                                                                  · skip
                                                                    refine lv_iload hx hb dX7_comes_59 (lv_at hl 0 rfl) ?_
                                                                    refine lv_iconst (v := 3) hx hb dX7_comes_61 (by decide) ?_
                                                                    refine lv_icmp_ne (tgt := 70) hx hb dX7_comes_62 (by decide) (fun c_62 => ?_) (fun c_62 => ?_)
                                                                    · skip
                                                                      refine lv_iconst (v := 0) hx hb dX7_comes_70 (by decide) ?_
                                                                      refine st_s X (t := 0) hJ (by omega) (j := 104 + 8 * (nn (w (6))) + 7) (rfl) (by omega) dX7_comes_71 (fun H locs hJ => ?_)
                                                                      refine lv_iinc (v := 8) (lv' := [(5, .int 8), (4, .int (nI (360 * 0 + (104 + 8 * (nn (w (6))))))), (3, .int (nI (nn (w (6))))), (0, .ref (B + 459)), (1, .int x), (2, .int y)]) hx hb dX7_comes_72 hl (k := 0) rfl (by decide) (by decide) rfl (fun ls hl => ?_)
                                                                      refine lv_goto (tgt := 18) hx hb dX7_comes_75 (by decide) ?_
                                                                      refine lv_iload hx hb dX7_comes_18 (lv_at hl 0 rfl) ?_
                                                                      refine lv_bipush (v := 8) hx hb dX7_comes_20 (by decide) ?_
                                                                      refine lv_icmp_ge (tgt := 78) hx hb dX7_comes_22 (by decide) (fun c_22 => ?_) (fun c_22 => ?_)
                                                                      · skip
                                                                        refine lv_iconst (v := 0) hx hb dX7_comes_78 (by decide) ?_
                                                                        refine lv_istore (lv' := [(5, .int 0), (4, .int (nI (360 * 0 + (104 + 8 * (nn (w (6))))))), (3, .int (nI (nn (w (6))))), (0, .ref (B + 459)), (1, .int x), (2, .int y)]) hx hb dX7_comes_79 hl (by decide) rfl (fun ls hl => ?_)
                                                                        have hs : sX7_comes w x y = bX7_comes_81 x y 13 (upd (upd (upd (upd (upd (upd (upd (upd w (104 + 8 * (nn (w (6))) + 0) x) (104 + 8 * (nn (w (6))) + 1) y) (104 + 8 * (nn (w (6))) + 2) (-6)) (104 + 8 * (nn (w (6))) + 3) (-6)) (104 + 8 * (nn (w (6))) + 4) 0) (104 + 8 * (nn (w (6))) + 5) 0) (104 + 8 * (nn (w (6))) + 6) 0) (104 + 8 * (nn (w (6))) + 7) 0) (nn (w (6))) 0 := by unfold sX7_comes; rfl
                                                                        exact bk_81 13 (upd (upd (upd (upd (upd (upd (upd (upd w (104 + 8 * (nn (w (6))) + 0) x) (104 + 8 * (nn (w (6))) + 1) y) (104 + 8 * (nn (w (6))) + 2) (-6)) (104 + 8 * (nn (w (6))) + 3) (-6)) (104 + 8 * (nn (w (6))) + 4) 0) (104 + 8 * (nn (w (6))) + 5) 0) (104 + 8 * (nn (w (6))) + 6) 0) (104 + 8 * (nn (w (6))) + 7) 0) (nn (w (6))) 0 (by omega) (Rn_upd (by unfold bad; omega) (Rn_upd (by unfold bad; omega) (Rn_upd (by unfold bad; omega) (Rn_upd (by unfold bad; omega) (Rn_upd (by unfold bad; omega) (Rn_upd (by unfold bad; omega) (Rn_upd (by unfold bad; omega) (Rn_upd (by unfold bad; omega) (hrn))))))))) (by omega) (by omega) _ _ _ hJ (lv_sub hl [3, 4, 5, 2, 0] rfl) hs
                                                                      · exact absurd c_22 (by decide)
                                                                    · exact absurd c_62 (by decide)
                                                                · exact absurd c_46 (by decide)
                                                              · exact absurd c_36 (by decide)
                                                          · exact absurd c_62 (by decide)
                                                      · exact absurd c_46 (by decide)
                                                    · exact absurd c_36 (by decide)
                                                · exact absurd c_62 (by decide)
                                            · exact absurd c_46 (by decide)
                                          · exact absurd c_36 (by decide)
                                      · exact absurd c_62 (by decide)
                                  · exact absurd c_46 (by decide)
                                · exact absurd c_36 (by decide)
                        · exact absurd c_46 (by decide)
                      · exact absurd c_36 (by decide)
                  · exact absurd c_56 (by decide)
                · exact absurd c_46 (by decide)
              · exact absurd c_36 (by decide)
        · exact absurd c_36 (by decide)

def sX7_guesses (w : Row) (c : Nat) (i : Nat) (z : Int32) : Int32 × Row := (sX7_many (upd (upd (upd (upd (upd w (104 + 8 * c + 2) (nI i)) (104 + 8 * c + 3) z) (104 + 8 * c + 4) 0) (12 + (nn (w (10)))) (nI c)) (10) (((upd (upd (upd (upd w (104 + 8 * c + 2) (nI i)) (104 + 8 * c + 3) z) (104 + 8 * c + 4) 0) (12 + (nn (w (10)))) (nI c)) (10)) + 1)) i, upd (upd (upd (upd (upd w (104 + 8 * c + 2) (nI i)) (104 + 8 * c + 3) z) (104 + 8 * c + 4) 0) (12 + (nn (w (10)))) (nI c)) (10) (((upd (upd (upd (upd w (104 + 8 * c + 2) (nI i)) (104 + 8 * c + 3) z) (104 + 8 * c + 4) 0) (12 + (nn (w (10)))) (nI c)) (10)) + 1))
set_option maxHeartbeats 4000000 in
set_option maxRecDepth 100000 in
theorem mX7_guesses (l : Launch) (E : EE) (B : Nat) (g : GS) (c : Nat) (i : Nat) (z : Int32) (w : Row) (hc : c < 8) (hi : i < 12) (hrn : Rn w) (hq10 : nn (w (10)) < 8) : CG l yX7_guesses cX7_guesses 5 (some .int) 2 45 E B [.ref (B + 459), .int (nI c), .int (nI i), .int z] (upS g 0 w) (some (.int (sX7_guesses w c i z).1)) (upS g 0 ((sX7_guesses w c i z).2)) := by
  refine mkI (own := RX7) (ty := .int) rfl (by decide) rfl (rfl) (Nat.le_of_ble_eq_true rfl) (fun P_ e_ s_ m_ a_ below meth cd Q X fin ls hl hJ => ?_)
  have hx := X.1
  have hb := X.2.1
  have hl : lv_has ls 5 [(0, .ref (B + 459)), (1, .int (nI c)), (2, .int (nI i)), (3, .int z)] := hl
  refine lv_iconst (v := 0) hx hb dX7_guesses_0 (by decide) ?_
  refine lv_iload_n hx hb dX7_guesses_1 rfl (lv_at hl 1 rfl) ?_
  refine kX7_40 X hJ (qX7_cartAt l E B _ 0 c) rfl hl.1 ⟨Nat.le_of_ble_eq_true rfl, Nat.le_of_ble_eq_true rfl⟩ ⟨Nat.le_refl _, Nat.le_refl _⟩ (rest := []) rfl (Nat.le_of_ble_eq_true rfl) dX7_guesses_2 (fun H locs hJ => ?_)
  refine lv_istore (lv' := [(4, .int (nI (360 * 0 + (104 + 8 * c)))), (0, .ref (B + 459)), (1, .int (nI c)), (2, .int (nI i)), (3, .int z)]) hx hb dX7_guesses_5 hl (by decide) rfl (fun ls hl => ?_)
  refine lv_aload_n hx hb dX7_guesses_7 rfl (lv_at hl 1 rfl) ?_
  refine gX7_7 X hJ (w := g.2.2.2) rfl dX7_guesses_8 ?_
  refine lv_iload hx hb dX7_guesses_11 (lv_at hl 0 rfl) ?_
  refine lv_iconst (v := 2) hx hb dX7_guesses_13 (by decide) ?_
  refine xiadd (z := nI (360 * 0 + (104 + 8 * c + 2))) hx hb dX7_guesses_14 (nI_a3 0 (104 + 8 * c) 2) ?_
  refine lv_iload_n hx hb dX7_guesses_15 rfl (lv_at hl 3 rfl) ?_
  refine st_s X (t := 0) hJ (by omega) (j := 104 + 8 * c + 2) (rfl) (by omega) dX7_guesses_16 (fun H locs hJ => ?_)
  refine lv_aload_n hx hb dX7_guesses_17 rfl (lv_at hl 1 rfl) ?_
  refine gX7_7 X hJ (w := g.2.2.2) rfl dX7_guesses_18 ?_
  refine lv_iload hx hb dX7_guesses_21 (lv_at hl 0 rfl) ?_
  refine lv_iconst (v := 3) hx hb dX7_guesses_23 (by decide) ?_
  refine xiadd (z := nI (360 * 0 + (104 + 8 * c + 3))) hx hb dX7_guesses_24 (nI_a3 0 (104 + 8 * c) 3) ?_
  refine lv_iload_n hx hb dX7_guesses_25 rfl (lv_at hl 4 rfl) ?_
  refine st_s X (t := 0) hJ (by omega) (j := 104 + 8 * c + 3) (rfl) (by omega) dX7_guesses_26 (fun H locs hJ => ?_)
  refine lv_aload_n hx hb dX7_guesses_27 rfl (lv_at hl 1 rfl) ?_
  refine gX7_7 X hJ (w := g.2.2.2) rfl dX7_guesses_28 ?_
  refine lv_iload hx hb dX7_guesses_31 (lv_at hl 0 rfl) ?_
  refine lv_iconst (v := 4) hx hb dX7_guesses_33 (by decide) ?_
  refine xiadd (z := nI (360 * 0 + (104 + 8 * c + 4))) hx hb dX7_guesses_34 (nI_a3 0 (104 + 8 * c) 4) ?_
  refine lv_iconst (v := 0) hx hb dX7_guesses_35 (by decide) ?_
  refine st_s X (t := 0) hJ (by omega) (j := 104 + 8 * c + 4) (rfl) (by omega) dX7_guesses_36 (fun H locs hJ => ?_)
  refine lv_aload_n hx hb dX7_guesses_37 rfl (lv_at hl 1 rfl) ?_
  refine gX7_7 X hJ (w := g.2.2.2) rfl dX7_guesses_38 ?_
  refine lv_bipush (v := 12) hx hb dX7_guesses_41 (by decide) ?_
  refine lv_aload_n hx hb dX7_guesses_43 rfl (lv_at hl 1 rfl) ?_
  refine gX7_7 X hJ (w := g.2.2.2) rfl dX7_guesses_44 ?_
  refine lv_bipush (v := 10) hx hb dX7_guesses_47 (by decide) ?_
  refine ld_s X hJ (t := 0) (w := upd (upd (upd w (104 + 8 * c + 2) (nI i)) (104 + 8 * c + 3) z) (104 + 8 * c + 4) 0) (by omega) upS_1 (j := 10) (by decide) (by omega) dX7_guesses_49 ?_
  refine cvt (y := nI (nn (w (10)))) ((updn (by omega)).trans ((updn (by omega)).trans ((updn (by omega)).trans hrn.1.1.eq))) ?_
  refine xiadd (z := nI (12 + (nn (w (10))))) hx hb dX7_guesses_50 (nI_add 12 (nn (w (10)))) ?_
  refine lv_iload_n hx hb dX7_guesses_51 rfl (lv_at hl 2 rfl) ?_
  refine st_s X (t := 0) hJ (by omega) (j := 12 + (nn (w (10)))) (congrArg nI (by omega)) (by omega) dX7_guesses_52 (fun H locs hJ => ?_)
  refine lv_aload_n hx hb dX7_guesses_53 rfl (lv_at hl 1 rfl) ?_
  refine gX7_7 X hJ (w := g.2.2.2) rfl dX7_guesses_54 ?_
  refine lv_bipush (v := 10) hx hb dX7_guesses_57 (by decide) ?_
  refine lv_dup2_11 hx hb dX7_guesses_59 rfl rfl ?_
  refine ld_s X hJ (t := 0) (w := upd (upd (upd (upd w (104 + 8 * c + 2) (nI i)) (104 + 8 * c + 3) z) (104 + 8 * c + 4) 0) (12 + (nn (w (10)))) (nI c)) (by omega) upS_1 (j := 10) (by decide) (by omega) dX7_guesses_60 ?_
  refine lv_iconst (v := 1) hx hb dX7_guesses_61 (by decide) ?_
  refine lv_iadd hx hb dX7_guesses_62 ?_
  refine st_s X (t := 0) hJ (by omega) (j := 10) (by decide) (by omega) dX7_guesses_63 (fun H locs hJ => ?_)
  refine lv_aload_n hx hb dX7_guesses_64 rfl (lv_at hl 1 rfl) ?_
  refine lv_iconst (v := 0) hx hb dX7_guesses_65 (by decide) ?_
  refine lv_iload_n hx hb dX7_guesses_66 rfl (lv_at hl 3 rfl) ?_
  refine kX7_47 X hJ (mX7_many l E B _ 0 i (upd (upd (upd (upd (upd w (104 + 8 * c + 2) (nI i)) (104 + 8 * c + 3) z) (104 + 8 * c + 4) 0) (12 + (nn (w (10)))) (nI c)) (10) (((upd (upd (upd (upd w (104 + 8 * c + 2) (nI i)) (104 + 8 * c + 3) z) (104 + 8 * c + 4) 0) (12 + (nn (w (10)))) (nI c)) (10)) + 1)) (by omega) (by omega) upS_1 (Rn_10 (by rw [updn (by omega), updn (by omega), updn (by omega), updn (by omega), hrn.1.1.eq, nI_1]; exact sm_nI (by omega) (by omega)) (Rn_q (by omega) (sm_nI (by omega) (by omega)) (Rn_upd (by unfold bad; omega) (Rn_upd (by unfold bad; omega) (Rn_upd (by unfold bad; omega) hrn)))))) rfl (by omega) (at_M rfl) hl.1 ⟨Nat.le_of_ble_eq_true rfl, Nat.le_of_ble_eq_true rfl⟩ ⟨Nat.le_refl _, Nat.le_refl _⟩ (rest := []) rfl (Nat.le_of_ble_eq_true rfl) dX7_guesses_67 (fun H locs hJ => ?_)
  have hs : sX7_guesses w c i z = (sX7_many (upd (upd (upd (upd (upd w (104 + 8 * c + 2) (nI i)) (104 + 8 * c + 3) z) (104 + 8 * c + 4) 0) (12 + (nn (w (10)))) (nI c)) (10) (((upd (upd (upd (upd w (104 + 8 * c + 2) (nI i)) (104 + 8 * c + 3) z) (104 + 8 * c + 4) 0) (12 + (nn (w (10)))) (nI c)) (10)) + 1)) i, upd (upd (upd (upd (upd w (104 + 8 * c + 2) (nI i)) (104 + 8 * c + 3) z) (104 + 8 * c + 4) 0) (12 + (nn (w (10)))) (nI c)) (10) (((upd (upd (upd (upd w (104 + 8 * c + 2) (nI i)) (104 + 8 * c + 3) z) (104 + 8 * c + 4) 0) (12 + (nn (w (10)))) (nI c)) (10)) + 1)) := by unfold sX7_guesses; rfl
  exact fin (by rw [hs]; dsimp only; exact hJ) (by rw [hs]) dX7_guesses_70

def sX7_leaves (w : Row) (c : Nat) : Int32 × Row := (w (104 + 8 * c + 2), (sX7_stopsWaiting w c))
set_option maxHeartbeats 4000000 in
set_option maxRecDepth 100000 in
theorem mX7_leaves (l : Launch) (E : EE) (B : Nat) (g : GS) (c : Nat) (w : Row) (hc : c < 8) (hrn : Rn w) : CG l yX7_leaves cX7_leaves 3 (some .int) 2 46 E B [.ref (B + 459), .int (nI c)] (upS g 0 w) (some (.int (sX7_leaves w c).1)) (upS g 0 ((sX7_leaves w c).2)) := by
  refine mkI (own := RX7) (ty := .int) rfl (by decide) rfl (rfl) (Nat.le_of_ble_eq_true rfl) (fun P_ e_ s_ m_ a_ below meth cd Q X fin ls hl hJ => ?_)
  have hx := X.1
  have hb := X.2.1
  have hl : lv_has ls 3 [(0, .ref (B + 459)), (1, .int (nI c))] := hl
  refine lv_aload_n hx hb dX7_leaves_0 rfl (lv_at hl 0 rfl) ?_
  refine gX7_7 X hJ (w := g.2.2.2) rfl dX7_leaves_1 ?_
  refine lv_iconst (v := 0) hx hb dX7_leaves_4 (by decide) ?_
  refine lv_iload_n hx hb dX7_leaves_5 rfl (lv_at hl 1 rfl) ?_
  refine kX7_40 X hJ (qX7_cartAt l E B _ 0 c) rfl hl.1 ⟨Nat.le_of_ble_eq_true rfl, Nat.le_of_ble_eq_true rfl⟩ ⟨Nat.le_refl _, Nat.le_refl _⟩ (rest := [.ref (B + 460)]) rfl (Nat.le_of_ble_eq_true rfl) dX7_leaves_6 (fun H locs hJ => ?_)
  refine lv_iconst (v := 2) hx hb dX7_leaves_9 (by decide) ?_
  refine xiadd (z := nI (360 * 0 + (104 + 8 * c + 2))) hx hb dX7_leaves_10 (nI_a3 0 (104 + 8 * c) 2) ?_
  refine ld_s X hJ (t := 0) (w := w) (by omega) upS_1 (j := 104 + 8 * c + 2) (rfl) (by omega) dX7_leaves_11 ?_
  refine lv_istore_n (lv' := [(2, .int (w (104 + 8 * c + 2))), (0, .ref (B + 459)), (1, .int (nI c))]) hx hb dX7_leaves_12 rfl hl (by decide) rfl (fun ls hl => ?_)
  refine lv_aload_n hx hb dX7_leaves_13 rfl (lv_at hl 1 rfl) ?_
  refine lv_iconst (v := 0) hx hb dX7_leaves_14 (by decide) ?_
  refine lv_iload_n hx hb dX7_leaves_15 rfl (lv_at hl 2 rfl) ?_
  refine kX7_67 X hJ (mX7_stopsWaiting l E B _ 0 c w (by omega) (by omega) (hrn)) rfl (by omega) (at_M rfl) hl.1 ⟨Nat.le_of_ble_eq_true rfl, Nat.le_of_ble_eq_true rfl⟩ ⟨Nat.le_refl _, Nat.le_refl _⟩ (rest := []) rfl (Nat.le_of_ble_eq_true rfl) dX7_leaves_16 (fun H locs hJ => ?_)
  refine lv_iload_n hx hb dX7_leaves_19 rfl (lv_at hl 0 rfl) ?_
  have hs : sX7_leaves w c = (w (104 + 8 * c + 2), (sX7_stopsWaiting w c)) := by unfold sX7_leaves; rfl
  exact fin (by rw [hs]; dsimp only; exact hJ) (by rw [hs]) dX7_leaves_20

def sX7_hints (w : Row) (c : Nat) (i : Nat) : Int32 × Row := if (((upd (sX7_pays w c i (w (1))) (9) (((sX7_pays w c i (w (1))) (9)) + 1)) (168 + 2 * (12 * c + i))) + ((upd (sX7_pays w c i (w (1))) (9) (((sX7_pays w c i (w (1))) (9)) + 1)) (168 + 2 * (12 * c + i) + 1))) / 2 < (upd (sX7_pays w c i (w (1))) (9) (((sX7_pays w c i (w (1))) (9)) + 1)) (20 + 7 * i + 3) then (((((upd (upd (sX7_pays w c i (w (1))) (9) (((sX7_pays w c i (w (1))) (9)) + 1)) (168 + 2 * (12 * c + i)) (((((upd (sX7_pays w c i (w (1))) (9) (((sX7_pays w c i (w (1))) (9)) + 1)) (168 + 2 * (12 * c + i))) + ((upd (sX7_pays w c i (w (1))) (9) (((sX7_pays w c i (w (1))) (9)) + 1)) (168 + 2 * (12 * c + i) + 1))) / 2) + 1)) (168 + 2 * (12 * c + i) + 1)) - ((upd (upd (sX7_pays w c i (w (1))) (9) (((sX7_pays w c i (w (1))) (9)) + 1)) (168 + 2 * (12 * c + i)) (((((upd (sX7_pays w c i (w (1))) (9) (((sX7_pays w c i (w (1))) (9)) + 1)) (168 + 2 * (12 * c + i))) + ((upd (sX7_pays w c i (w (1))) (9) (((sX7_pays w c i (w (1))) (9)) + 1)) (168 + 2 * (12 * c + i) + 1))) / 2) + 1)) (168 + 2 * (12 * c + i)))) + 1, upd (upd (sX7_pays w c i (w (1))) (9) (((sX7_pays w c i (w (1))) (9)) + 1)) (168 + 2 * (12 * c + i)) (((((upd (sX7_pays w c i (w (1))) (9) (((sX7_pays w c i (w (1))) (9)) + 1)) (168 + 2 * (12 * c + i))) + ((upd (sX7_pays w c i (w (1))) (9) (((sX7_pays w c i (w (1))) (9)) + 1)) (168 + 2 * (12 * c + i) + 1))) / 2) + 1))) else (((((upd (upd (sX7_pays w c i (w (1))) (9) (((sX7_pays w c i (w (1))) (9)) + 1)) (168 + 2 * (12 * c + i) + 1) ((((upd (sX7_pays w c i (w (1))) (9) (((sX7_pays w c i (w (1))) (9)) + 1)) (168 + 2 * (12 * c + i))) + ((upd (sX7_pays w c i (w (1))) (9) (((sX7_pays w c i (w (1))) (9)) + 1)) (168 + 2 * (12 * c + i) + 1))) / 2)) (168 + 2 * (12 * c + i) + 1)) - ((upd (upd (sX7_pays w c i (w (1))) (9) (((sX7_pays w c i (w (1))) (9)) + 1)) (168 + 2 * (12 * c + i) + 1) ((((upd (sX7_pays w c i (w (1))) (9) (((sX7_pays w c i (w (1))) (9)) + 1)) (168 + 2 * (12 * c + i))) + ((upd (sX7_pays w c i (w (1))) (9) (((sX7_pays w c i (w (1))) (9)) + 1)) (168 + 2 * (12 * c + i) + 1))) / 2)) (168 + 2 * (12 * c + i)))) + 1, upd (upd (sX7_pays w c i (w (1))) (9) (((sX7_pays w c i (w (1))) (9)) + 1)) (168 + 2 * (12 * c + i) + 1) ((((upd (sX7_pays w c i (w (1))) (9) (((sX7_pays w c i (w (1))) (9)) + 1)) (168 + 2 * (12 * c + i))) + ((upd (sX7_pays w c i (w (1))) (9) (((sX7_pays w c i (w (1))) (9)) + 1)) (168 + 2 * (12 * c + i) + 1))) / 2)))
set_option maxHeartbeats 4000000 in
set_option maxRecDepth 100000 in
theorem mX7_hints (l : Launch) (E : EE) (B : Nat) (g : GS) (c : Nat) (i : Nat) (w : Row) (hc : c < 8) (hi : i < 12) (hrn : Rn w) : CG l yX7_hints cX7_hints 5 (some .int) 2 45 E B [.ref (B + 459), .int (nI c), .int (nI i)] (upS g 0 w) (some (.int (sX7_hints w c i).1)) (upS g 0 ((sX7_hints w c i).2)) := by
  refine mkI (own := RX7) (ty := .int) rfl (by decide) rfl (rfl) (Nat.le_of_ble_eq_true rfl) (fun P_ e_ s_ m_ a_ below meth cd Q X fin ls hl hJ => ?_)
  have hx := X.1
  have hb := X.2.1
  have hl : lv_has ls 5 [(0, .ref (B + 459)), (1, .int (nI c)), (2, .int (nI i))] := hl
  refine lv_aload_n hx hb dX7_hints_0 rfl (lv_at hl 0 rfl) ?_
  refine lv_iconst (v := 0) hx hb dX7_hints_1 (by decide) ?_
  refine lv_iload_n hx hb dX7_hints_2 rfl (lv_at hl 1 rfl) ?_
  refine lv_iload_n hx hb dX7_hints_3 rfl (lv_at hl 2 rfl) ?_
  refine lv_aload_n hx hb dX7_hints_4 rfl (lv_at hl 0 rfl) ?_
  refine gX7_7 X hJ (w := g.2.2.2) rfl dX7_hints_5 ?_
  refine lv_iconst (v := 1) hx hb dX7_hints_8 (by decide) ?_
  refine ld_s X hJ (t := 0) (w := w) (by omega) upS_1 (j := 1) (by decide) (by omega) dX7_hints_9 ?_
  refine kX7_63 X hJ (mX7_pays l E B _ 0 c i (w (1)) w (by omega) (by omega) (by omega)) rfl (by omega) (at_M rfl) hl.1 ⟨Nat.le_of_ble_eq_true rfl, Nat.le_of_ble_eq_true rfl⟩ ⟨Nat.le_refl _, Nat.le_refl _⟩ (rest := []) rfl (Nat.le_of_ble_eq_true rfl) dX7_hints_10 (fun H locs hJ => ?_)
  refine lv_aload_n hx hb dX7_hints_13 rfl (lv_at hl 0 rfl) ?_
  refine gX7_7 X hJ (w := g.2.2.2) rfl dX7_hints_14 ?_
  refine lv_bipush (v := 9) hx hb dX7_hints_17 (by decide) ?_
  refine lv_dup2_11 hx hb dX7_hints_19 rfl rfl ?_
  refine ld_s X hJ (t := 0) (w := (sX7_pays w c i (w (1)))) (by omega) upS_1 (j := 9) (by decide) (by omega) dX7_hints_20 ?_
  refine lv_iconst (v := 1) hx hb dX7_hints_21 (by decide) ?_
  refine lv_iadd hx hb dX7_hints_22 ?_
  refine st_s X (t := 0) hJ (by omega) (j := 9) (by decide) (by omega) dX7_hints_23 (fun H locs hJ => ?_)
  refine lv_iconst (v := 0) hx hb dX7_hints_24 (by decide) ?_
  refine lv_iload_n hx hb dX7_hints_25 rfl (lv_at hl 1 rfl) ?_
  refine lv_iload_n hx hb dX7_hints_26 rfl (lv_at hl 2 rfl) ?_
  refine kX7_36 X hJ (qX7_rangeAt l E B _ 0 c i) rfl hl.1 ⟨Nat.le_of_ble_eq_true rfl, Nat.le_of_ble_eq_true rfl⟩ ⟨Nat.le_refl _, Nat.le_refl _⟩ (rest := []) rfl (Nat.le_of_ble_eq_true rfl) dX7_hints_27 (fun H locs hJ => ?_)
  refine lv_istore_n (lv' := [(3, .int (nI (360 * 0 + (168 + 2 * (12 * c + i))))), (0, .ref (B + 459)), (1, .int (nI c)), (2, .int (nI i))]) hx hb dX7_hints_30 rfl hl (by decide) rfl (fun ls hl => ?_)
  refine lv_aload_n hx hb dX7_hints_31 rfl (lv_at hl 1 rfl) ?_
  refine gX7_7 X hJ (w := g.2.2.2) rfl dX7_hints_32 ?_
  refine lv_iload_n hx hb dX7_hints_35 rfl (lv_at hl 0 rfl) ?_
  refine ld_s X hJ (t := 0) (w := upd (sX7_pays w c i (w (1))) (9) (((sX7_pays w c i (w (1))) (9)) + 1)) (by omega) upS_1 (j := 168 + 2 * (12 * c + i)) (rfl) (by omega) dX7_hints_36 ?_
  refine lv_aload_n hx hb dX7_hints_37 rfl (lv_at hl 1 rfl) ?_
  refine gX7_7 X hJ (w := g.2.2.2) rfl dX7_hints_38 ?_
  refine lv_iload_n hx hb dX7_hints_41 rfl (lv_at hl 0 rfl) ?_
  refine lv_iconst (v := 1) hx hb dX7_hints_42 (by decide) ?_
  refine xiadd (z := nI (360 * 0 + (168 + 2 * (12 * c + i) + 1))) hx hb dX7_hints_43 (nI_a3 0 (168 + 2 * (12 * c + i)) 1) ?_
  refine ld_s X hJ (t := 0) (w := upd (sX7_pays w c i (w (1))) (9) (((sX7_pays w c i (w (1))) (9)) + 1)) (by omega) upS_1 (j := 168 + 2 * (12 * c + i) + 1) (rfl) (by omega) dX7_hints_44 ?_
  refine lv_iadd hx hb dX7_hints_45 ?_
  refine lv_iconst (v := 2) hx hb dX7_hints_46 (by decide) ?_
  refine lv_idiv hx hb dX7_hints_47 (by decide) ?_
  refine lv_istore (lv' := [(4, .int ((((upd (sX7_pays w c i (w (1))) (9) (((sX7_pays w c i (w (1))) (9)) + 1)) (168 + 2 * (12 * c + i))) + ((upd (sX7_pays w c i (w (1))) (9) (((sX7_pays w c i (w (1))) (9)) + 1)) (168 + 2 * (12 * c + i) + 1))) / 2)), (3, .int (nI (360 * 0 + (168 + 2 * (12 * c + i))))), (0, .ref (B + 459)), (1, .int (nI c)), (2, .int (nI i))]) hx hb dX7_hints_48 hl (by decide) rfl (fun ls hl => ?_)
  refine lv_aload_n hx hb dX7_hints_50 rfl (lv_at hl 2 rfl) ?_
  refine gX7_7 X hJ (w := g.2.2.2) rfl dX7_hints_51 ?_
  refine lv_iconst (v := 0) hx hb dX7_hints_54 (by decide) ?_
  refine lv_iload_n hx hb dX7_hints_55 rfl (lv_at hl 4 rfl) ?_
  refine kX7_31 X hJ (qX7_bridgeAt l E B _ 0 i) rfl hl.1 ⟨Nat.le_of_ble_eq_true rfl, Nat.le_of_ble_eq_true rfl⟩ ⟨Nat.le_refl _, Nat.le_refl _⟩ (rest := [.ref (B + 460)]) rfl (Nat.le_of_ble_eq_true rfl) dX7_hints_56 (fun H locs hJ => ?_)
  refine lv_iconst (v := 3) hx hb dX7_hints_59 (by decide) ?_
  refine xiadd (z := nI (360 * 0 + (20 + 7 * i + 3))) hx hb dX7_hints_60 (nI_a3 0 (20 + 7 * i) 3) ?_
  refine ld_s X hJ (t := 0) (w := upd (sX7_pays w c i (w (1))) (9) (((sX7_pays w c i (w (1))) (9)) + 1)) (by omega) upS_1 (j := 20 + 7 * i + 3) (rfl) (by omega) dX7_hints_61 ?_
  refine lv_iload hx hb dX7_hints_62 (lv_at hl 0 rfl) ?_
  refine lv_icmp_gt (tgt := 80) hx hb dX7_hints_64 (by decide) (fun c_64 => ?_) (fun c_64 => ?_)
  · skip
    refine lv_aload_n hx hb dX7_hints_80 rfl (lv_at hl 2 rfl) ?_
    refine gX7_7 X hJ (w := g.2.2.2) rfl dX7_hints_81 ?_
    refine lv_iload_n hx hb dX7_hints_84 rfl (lv_at hl 1 rfl) ?_
    refine lv_iload hx hb dX7_hints_85 (lv_at hl 0 rfl) ?_
    refine lv_iconst (v := 1) hx hb dX7_hints_87 (by decide) ?_
    refine lv_iadd hx hb dX7_hints_88 ?_
    refine st_s X (t := 0) hJ (by omega) (j := 168 + 2 * (12 * c + i)) (rfl) (by omega) dX7_hints_89 (fun H locs hJ => ?_)
    refine lv_aload_n hx hb dX7_hints_90 rfl (lv_at hl 2 rfl) ?_
    refine gX7_7 X hJ (w := g.2.2.2) rfl dX7_hints_91 ?_
    refine lv_iload_n hx hb dX7_hints_94 rfl (lv_at hl 1 rfl) ?_
    refine lv_iconst (v := 1) hx hb dX7_hints_95 (by decide) ?_
    refine xiadd (z := nI (360 * 0 + (168 + 2 * (12 * c + i) + 1))) hx hb dX7_hints_96 (nI_a3 0 (168 + 2 * (12 * c + i)) 1) ?_
    refine ld_s X hJ (t := 0) (w := upd (upd (sX7_pays w c i (w (1))) (9) (((sX7_pays w c i (w (1))) (9)) + 1)) (168 + 2 * (12 * c + i)) (((((upd (sX7_pays w c i (w (1))) (9) (((sX7_pays w c i (w (1))) (9)) + 1)) (168 + 2 * (12 * c + i))) + ((upd (sX7_pays w c i (w (1))) (9) (((sX7_pays w c i (w (1))) (9)) + 1)) (168 + 2 * (12 * c + i) + 1))) / 2) + 1)) (by omega) upS_1 (j := 168 + 2 * (12 * c + i) + 1) (rfl) (by omega) dX7_hints_97 ?_
    refine lv_aload_n hx hb dX7_hints_98 rfl (lv_at hl 2 rfl) ?_
    refine gX7_7 X hJ (w := g.2.2.2) rfl dX7_hints_99 ?_
    refine lv_iload_n hx hb dX7_hints_102 rfl (lv_at hl 1 rfl) ?_
    refine ld_s X hJ (t := 0) (w := upd (upd (sX7_pays w c i (w (1))) (9) (((sX7_pays w c i (w (1))) (9)) + 1)) (168 + 2 * (12 * c + i)) (((((upd (sX7_pays w c i (w (1))) (9) (((sX7_pays w c i (w (1))) (9)) + 1)) (168 + 2 * (12 * c + i))) + ((upd (sX7_pays w c i (w (1))) (9) (((sX7_pays w c i (w (1))) (9)) + 1)) (168 + 2 * (12 * c + i) + 1))) / 2) + 1)) (by omega) upS_1 (j := 168 + 2 * (12 * c + i)) (rfl) (by omega) dX7_hints_103 ?_
    refine lv_isub hx hb dX7_hints_104 ?_
    refine lv_iconst (v := 1) hx hb dX7_hints_105 (by decide) ?_
    refine lv_iadd hx hb dX7_hints_106 ?_
    have hs : sX7_hints w c i = ((((upd (upd (sX7_pays w c i (w (1))) (9) (((sX7_pays w c i (w (1))) (9)) + 1)) (168 + 2 * (12 * c + i)) (((((upd (sX7_pays w c i (w (1))) (9) (((sX7_pays w c i (w (1))) (9)) + 1)) (168 + 2 * (12 * c + i))) + ((upd (sX7_pays w c i (w (1))) (9) (((sX7_pays w c i (w (1))) (9)) + 1)) (168 + 2 * (12 * c + i) + 1))) / 2) + 1)) (168 + 2 * (12 * c + i) + 1)) - ((upd (upd (sX7_pays w c i (w (1))) (9) (((sX7_pays w c i (w (1))) (9)) + 1)) (168 + 2 * (12 * c + i)) (((((upd (sX7_pays w c i (w (1))) (9) (((sX7_pays w c i (w (1))) (9)) + 1)) (168 + 2 * (12 * c + i))) + ((upd (sX7_pays w c i (w (1))) (9) (((sX7_pays w c i (w (1))) (9)) + 1)) (168 + 2 * (12 * c + i) + 1))) / 2) + 1)) (168 + 2 * (12 * c + i)))) + 1, upd (upd (sX7_pays w c i (w (1))) (9) (((sX7_pays w c i (w (1))) (9)) + 1)) (168 + 2 * (12 * c + i)) (((((upd (sX7_pays w c i (w (1))) (9) (((sX7_pays w c i (w (1))) (9)) + 1)) (168 + 2 * (12 * c + i))) + ((upd (sX7_pays w c i (w (1))) (9) (((sX7_pays w c i (w (1))) (9)) + 1)) (168 + 2 * (12 * c + i) + 1))) / 2) + 1)) := by unfold sX7_hints; rw [if_pos c_64]
    exact fin (by rw [hs]; dsimp only; exact hJ) (by rw [hs]) dX7_hints_107
  · skip
    refine lv_aload_n hx hb dX7_hints_67 rfl (lv_at hl 2 rfl) ?_
    refine gX7_7 X hJ (w := g.2.2.2) rfl dX7_hints_68 ?_
    refine lv_iload_n hx hb dX7_hints_71 rfl (lv_at hl 1 rfl) ?_
    refine lv_iconst (v := 1) hx hb dX7_hints_72 (by decide) ?_
    refine xiadd (z := nI (360 * 0 + (168 + 2 * (12 * c + i) + 1))) hx hb dX7_hints_73 (nI_a3 0 (168 + 2 * (12 * c + i)) 1) ?_
    refine lv_iload hx hb dX7_hints_74 (lv_at hl 0 rfl) ?_
    refine st_s X (t := 0) hJ (by omega) (j := 168 + 2 * (12 * c + i) + 1) (rfl) (by omega) dX7_hints_76 (fun H locs hJ => ?_)
    refine lv_goto (tgt := 90) hx hb dX7_hints_77 (by decide) ?_
    refine lv_aload_n hx hb dX7_hints_90 rfl (lv_at hl 2 rfl) ?_
    refine gX7_7 X hJ (w := g.2.2.2) rfl dX7_hints_91 ?_
    refine lv_iload_n hx hb dX7_hints_94 rfl (lv_at hl 1 rfl) ?_
    refine lv_iconst (v := 1) hx hb dX7_hints_95 (by decide) ?_
    refine xiadd (z := nI (360 * 0 + (168 + 2 * (12 * c + i) + 1))) hx hb dX7_hints_96 (nI_a3 0 (168 + 2 * (12 * c + i)) 1) ?_
    refine ld_s X hJ (t := 0) (w := upd (upd (sX7_pays w c i (w (1))) (9) (((sX7_pays w c i (w (1))) (9)) + 1)) (168 + 2 * (12 * c + i) + 1) ((((upd (sX7_pays w c i (w (1))) (9) (((sX7_pays w c i (w (1))) (9)) + 1)) (168 + 2 * (12 * c + i))) + ((upd (sX7_pays w c i (w (1))) (9) (((sX7_pays w c i (w (1))) (9)) + 1)) (168 + 2 * (12 * c + i) + 1))) / 2)) (by omega) upS_1 (j := 168 + 2 * (12 * c + i) + 1) (rfl) (by omega) dX7_hints_97 ?_
    refine lv_aload_n hx hb dX7_hints_98 rfl (lv_at hl 2 rfl) ?_
    refine gX7_7 X hJ (w := g.2.2.2) rfl dX7_hints_99 ?_
    refine lv_iload_n hx hb dX7_hints_102 rfl (lv_at hl 1 rfl) ?_
    refine ld_s X hJ (t := 0) (w := upd (upd (sX7_pays w c i (w (1))) (9) (((sX7_pays w c i (w (1))) (9)) + 1)) (168 + 2 * (12 * c + i) + 1) ((((upd (sX7_pays w c i (w (1))) (9) (((sX7_pays w c i (w (1))) (9)) + 1)) (168 + 2 * (12 * c + i))) + ((upd (sX7_pays w c i (w (1))) (9) (((sX7_pays w c i (w (1))) (9)) + 1)) (168 + 2 * (12 * c + i) + 1))) / 2)) (by omega) upS_1 (j := 168 + 2 * (12 * c + i)) (rfl) (by omega) dX7_hints_103 ?_
    refine lv_isub hx hb dX7_hints_104 ?_
    refine lv_iconst (v := 1) hx hb dX7_hints_105 (by decide) ?_
    refine lv_iadd hx hb dX7_hints_106 ?_
    have hs : sX7_hints w c i = ((((upd (upd (sX7_pays w c i (w (1))) (9) (((sX7_pays w c i (w (1))) (9)) + 1)) (168 + 2 * (12 * c + i) + 1) ((((upd (sX7_pays w c i (w (1))) (9) (((sX7_pays w c i (w (1))) (9)) + 1)) (168 + 2 * (12 * c + i))) + ((upd (sX7_pays w c i (w (1))) (9) (((sX7_pays w c i (w (1))) (9)) + 1)) (168 + 2 * (12 * c + i) + 1))) / 2)) (168 + 2 * (12 * c + i) + 1)) - ((upd (upd (sX7_pays w c i (w (1))) (9) (((sX7_pays w c i (w (1))) (9)) + 1)) (168 + 2 * (12 * c + i) + 1) ((((upd (sX7_pays w c i (w (1))) (9) (((sX7_pays w c i (w (1))) (9)) + 1)) (168 + 2 * (12 * c + i))) + ((upd (sX7_pays w c i (w (1))) (9) (((sX7_pays w c i (w (1))) (9)) + 1)) (168 + 2 * (12 * c + i) + 1))) / 2)) (168 + 2 * (12 * c + i)))) + 1, upd (upd (sX7_pays w c i (w (1))) (9) (((sX7_pays w c i (w (1))) (9)) + 1)) (168 + 2 * (12 * c + i) + 1) ((((upd (sX7_pays w c i (w (1))) (9) (((sX7_pays w c i (w (1))) (9)) + 1)) (168 + 2 * (12 * c + i))) + ((upd (sX7_pays w c i (w (1))) (9) (((sX7_pays w c i (w (1))) (9)) + 1)) (168 + 2 * (12 * c + i) + 1))) / 2)) := by unfold sX7_hints; rw [if_neg c_64]
    exact fin (by rw [hs]; dsimp only; exact hJ) (by rw [hs]) dX7_hints_107

