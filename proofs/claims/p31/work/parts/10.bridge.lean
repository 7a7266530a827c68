def sX6_isBelow (a : Int32) (b : Int32) : Int32 := if a < 0 then (0) else (if b ≤ a then (0) else (1))
set_option maxHeartbeats 4000000 in
set_option maxRecDepth 100000 in
theorem mX6_isBelow (l : Launch) (E : EE) (B : Nat) (g : GS) (a : Int32) (b : Int32) : CG l yX6_isBelow cX6_isBelow 2 (some .boolean) 0 0 E B [.int a, .int b] g (some (.int (sX6_isBelow a b))) g := by
  refine mkI (own := RX6) (ty := .boolean) rfl (by decide) rfl (by unfold sX6_isBelow; (repeat' split) <;> rfl) (Nat.le_of_ble_eq_true rfl) (fun P_ e_ s_ m_ a_ below meth cd Q X fin ls hl hJ => ?_)
  have hx := X.1
  have hb := X.2.1
  have hl : lv_has ls 2 [(0, .int a), (1, .int b)] := hl
  refine lv_iload_n hx hb dX6_isBelow_0 rfl (lv_at hl 0 rfl) ?_
  refine lv_if_lt (tgt := 13) hx hb dX6_isBelow_1 (by decide) (fun c_1 => ?_) (fun c_1 => ?_)
  · skip
    refine lv_iconst (v := 0) hx hb dX6_isBelow_13 (by decide) ?_
    have hs : sX6_isBelow a b = 0 := by unfold sX6_isBelow; rw [if_pos c_1]
    exact fin hJ (by rw [hs]) dX6_isBelow_14
  · skip
    refine lv_iload_n hx hb dX6_isBelow_4 rfl (lv_at hl 0 rfl) ?_
    refine lv_iload_n hx hb dX6_isBelow_5 rfl (lv_at hl 1 rfl) ?_
    refine lv_icmp_ge (tgt := 13) hx hb dX6_isBelow_6 (by decide) (fun c_6 => ?_) (fun c_6 => ?_)
    · skip
      refine lv_iconst (v := 0) hx hb dX6_isBelow_13 (by decide) ?_
      have hs : sX6_isBelow a b = 0 := by unfold sX6_isBelow; rw [if_neg c_1, if_pos c_6]
      exact fin hJ (by rw [hs]) dX6_isBelow_14
    · skip
      refine lv_iconst (v := 1) hx hb dX6_isBelow_9 (by decide) ?_
      refine lv_goto (tgt := 14) hx hb dX6_isBelow_10 (by decide) ?_
      have hs : sX6_isBelow a b = 1 := by unfold sX6_isBelow; rw [if_neg c_1, if_neg c_6]
      exact fin hJ (by rw [hs]) dX6_isBelow_14

theorem isB_of {a b : Int32} {n : Nat} (h : ¬ sX6_isBelow a b = 0) (hb : sm b n) : a = nI (nn a) ∧ nn a < nn b ∧ nn a < n := by
  unfold sX6_isBelow at h
  by_cases h0 : a < 0
  · rw [if_pos h0] at h; exact absurd rfl h
  · rw [if_neg h0] at h
    by_cases h1 : b ≤ a
    · rw [if_pos h1] at h; exact absurd rfl h
    · exact nn_lt h0 h1 hb
def sX0_part (w : Row) (i : Nat) (x : Int32) : Int32 := if x = 0 then (w (20 + 7 * i)) else if x = 1 then (w (20 + 7 * i + 1)) else if x = 2 then (w (20 + 7 * i + 2)) else if x = 3 then (w (20 + 7 * i + 3)) else if x = 4 then (w (360 + i)) else if x = 5 then (w (20 + 7 * i + 4)) else if x = 6 then (w (20 + 7 * i + 5)) else (w (20 + 7 * i + 6))
set_option maxHeartbeats 4000000 in
set_option maxRecDepth 100000 in
theorem mX0_part (l : Launch) (E : EE) (B : Nat) (g : GS) (k : Nat) (i : Nat) (x : Int32) (w : Row) (hk : k < 11) (hi : i < 12) (hw : g.1 k = w) : CG l yX0_part cX0_part 2 (some .int) 0 0 E B [.ref (B + (wo k + (5 + i))), .int x] g (some (.int (sX0_part w i x))) g := by
  refine mkI (own := RX0) (ty := .int) rfl (by decide) rfl (rfl) (Nat.le_of_ble_eq_true rfl) (fun P_ e_ s_ m_ a_ below meth cd Q X fin ls hl hJ => ?_)
  have hx := X.1
  have hb := X.2.1
  have hl : lv_has ls 2 [(0, .ref (B + (wo k + (5 + i)))), (1, .int x)] := hl
  refine lv_iload_n hx hb dX0_part_0 rfl (lv_at hl 1 rfl) ?_
  by_cases c_1_0 : x = 0
  · rw [c_1_0]
    refine lv_tableIn (tgt := 44) hx hb dX0_part_1 (by decide) (by decide) (off := 43) (by decide) (by decide) ?_
    refine lv_aload_n hx hb dX0_part_44 rfl (lv_at hl 0 rfl) ?_
    refine gX0_15 X hJ (k := k) (w := w) (by omega) (i := i) (by omega)  hw dX0_part_45 ?_
    have hs : sX0_part w i x = w (20 + 7 * i) := by unfold sX0_part; rw [if_pos c_1_0]
    exact fin hJ (by rw [hs]) dX0_part_48
  by_cases c_1_1 : x = 1
  · rw [c_1_1]
    refine lv_tableIn (tgt := 49) hx hb dX0_part_1 (by decide) (by decide) (off := 48) (by decide) (by decide) ?_
    refine lv_aload_n hx hb dX0_part_49 rfl (lv_at hl 0 rfl) ?_
    refine gX0_18 X hJ (k := k) (w := w) (by omega) (i := i) (by omega)  hw dX0_part_50 ?_
    have hs : sX0_part w i x = w (20 + 7 * i + 1) := by unfold sX0_part; rw [if_neg c_1_0, if_pos c_1_1]
    exact fin hJ (by rw [hs]) dX0_part_53
  by_cases c_1_2 : x = 2
  · rw [c_1_2]
    refine lv_tableIn (tgt := 54) hx hb dX0_part_1 (by decide) (by decide) (off := 53) (by decide) (by decide) ?_
    refine lv_aload_n hx hb dX0_part_54 rfl (lv_at hl 0 rfl) ?_
    refine gX0_21 X hJ (k := k) (w := w) (by omega) (i := i) (by omega)  hw dX0_part_55 ?_
    have hs : sX0_part w i x = w (20 + 7 * i + 2) := by unfold sX0_part; rw [if_neg c_1_0, if_neg c_1_1, if_pos c_1_2]
    exact fin hJ (by rw [hs]) dX0_part_58
  by_cases c_1_3 : x = 3
  · rw [c_1_3]
    refine lv_tableIn (tgt := 59) hx hb dX0_part_1 (by decide) (by decide) (off := 58) (by decide) (by decide) ?_
    refine lv_aload_n hx hb dX0_part_59 rfl (lv_at hl 0 rfl) ?_
    refine gX0_24 X hJ (k := k) (w := w) (by omega) (i := i) (by omega)  hw dX0_part_60 ?_
    have hs : sX0_part w i x = w (20 + 7 * i + 3) := by unfold sX0_part; rw [if_neg c_1_0, if_neg c_1_1, if_neg c_1_2, if_pos c_1_3]
    exact fin hJ (by rw [hs]) dX0_part_63
  by_cases c_1_4 : x = 4
  · rw [c_1_4]
    refine lv_tableIn (tgt := 64) hx hb dX0_part_1 (by decide) (by decide) (off := 63) (by decide) (by decide) ?_
    refine lv_aload_n hx hb dX0_part_64 rfl (lv_at hl 0 rfl) ?_
    refine gX0_27 X hJ (k := k) (w := w) (by omega) (i := i) (by omega)  hw dX0_part_65 ?_
    have hs : sX0_part w i x = w (360 + i) := by unfold sX0_part; rw [if_neg c_1_0, if_neg c_1_1, if_neg c_1_2, if_neg c_1_3, if_pos c_1_4]
    exact fin hJ (by rw [hs]) dX0_part_68
  by_cases c_1_5 : x = 5
  · rw [c_1_5]
    refine lv_tableIn (tgt := 69) hx hb dX0_part_1 (by decide) (by decide) (off := 68) (by decide) (by decide) ?_
    refine lv_aload_n hx hb dX0_part_69 rfl (lv_at hl 0 rfl) ?_
    refine gX0_30 X hJ (k := k) (w := w) (by omega) (i := i) (by omega)  hw dX0_part_70 ?_
    have hs : sX0_part w i x = w (20 + 7 * i + 4) := by unfold sX0_part; rw [if_neg c_1_0, if_neg c_1_1, if_neg c_1_2, if_neg c_1_3, if_neg c_1_4, if_pos c_1_5]
    exact fin hJ (by rw [hs]) dX0_part_73
  by_cases c_1_6 : x = 6
  · rw [c_1_6]
    refine lv_tableIn (tgt := 74) hx hb dX0_part_1 (by decide) (by decide) (off := 73) (by decide) (by decide) ?_
    refine lv_aload_n hx hb dX0_part_74 rfl (lv_at hl 0 rfl) ?_
    refine gX0_33 X hJ (k := k) (w := w) (by omega) (i := i) (by omega)  hw dX0_part_75 ?_
    have hs : sX0_part w i x = w (20 + 7 * i + 5) := by unfold sX0_part; rw [if_neg c_1_0, if_neg c_1_1, if_neg c_1_2, if_neg c_1_3, if_neg c_1_4, if_neg c_1_5, if_pos c_1_6]
    exact fin hJ (by rw [hs]) dX0_part_78
  refine rtabOut (tgt := 79) hx hb dX0_part_1 (by decide) (fun h1 h2 => ?_) ?_
  · exfalso; have e0 := ne_toInt (n := 0) c_1_0 (by decide); have e1 := ne_toInt (n := 1) c_1_1 (by decide); have e2 := ne_toInt (n := 2) c_1_2 (by decide); have e3 := ne_toInt (n := 3) c_1_3 (by decide); have e4 := ne_toInt (n := 4) c_1_4 (by decide); have e5 := ne_toInt (n := 5) c_1_5 (by decide); have e6 := ne_toInt (n := 6) c_1_6 (by decide); omega
  refine lv_aload_n hx hb dX0_part_79 rfl (lv_at hl 0 rfl) ?_
  refine gX0_36 X hJ (k := k) (w := w) (by omega) (i := i) (by omega)  hw dX0_part_80 ?_
  have hs : sX0_part w i x = w (20 + 7 * i + 6) := by unfold sX0_part; rw [if_neg c_1_0, if_neg c_1_1, if_neg c_1_2, if_neg c_1_3, if_neg c_1_4, if_neg c_1_5, if_neg c_1_6]
  exact fin hJ (by rw [hs]) dX0_part_83

def sX0_isAt (w : Row) (i : Nat) (x : Int32) : Int32 := if w (20 + 7 * i) = x then (1) else (if w (20 + 7 * i + 1) = x then (1) else (0))
set_option maxHeartbeats 4000000 in
set_option maxRecDepth 100000 in
theorem mX0_isAt (l : Launch) (E : EE) (B : Nat) (g : GS) (k : Nat) (i : Nat) (x : Int32) (w : Row) (hk : k < 11) (hi : i < 12) (hw : g.1 k = w) : CG l yX0_isAt cX0_isAt 2 (some .boolean) 0 0 E B [.ref (B + (wo k + (5 + i))), .int x] g (some (.int (sX0_isAt w i x))) g := by
  refine mkI (own := RX0) (ty := .boolean) rfl (by decide) rfl (by unfold sX0_isAt; (repeat' split) <;> rfl) (Nat.le_of_ble_eq_true rfl) (fun P_ e_ s_ m_ a_ below meth cd Q X fin ls hl hJ => ?_)
  have hx := X.1
  have hb := X.2.1
  have hl : lv_has ls 2 [(0, .ref (B + (wo k + (5 + i)))), (1, .int x)] := hl
  refine lv_aload_n hx hb dX0_isAt_0 rfl (lv_at hl 0 rfl) ?_
  refine gX0_15 X hJ (k := k) (w := w) (by omega) (i := i) (by omega)  hw dX0_isAt_1 ?_
  refine lv_iload_n hx hb dX0_isAt_4 rfl (lv_at hl 1 rfl) ?_
  refine lv_icmp_eq (tgt := 16) hx hb dX0_isAt_5 (by decide) (fun c_5 => ?_) (fun c_5 => ?_)
  · skip
    refine lv_iconst (v := 1) hx hb dX0_isAt_16 (by decide) ?_
    refine lv_goto (tgt := 21) hx hb dX0_isAt_17 (by decide) ?_
    have hs : sX0_isAt w i x = 1 := by unfold sX0_isAt; rw [if_pos c_5]
    exact fin hJ (by rw [hs]) dX0_isAt_21
  · skip
    refine lv_aload_n hx hb dX0_isAt_8 rfl (lv_at hl 0 rfl) ?_
    refine gX0_18 X hJ (k := k) (w := w) (by omega) (i := i) (by omega)  hw dX0_isAt_9 ?_
    refine lv_iload_n hx hb dX0_isAt_12 rfl (lv_at hl 1 rfl) ?_
    refine lv_icmp_ne (tgt := 20) hx hb dX0_isAt_13 (by decide) (fun c_13 => ?_) (fun c_13 => ?_)
    · skip
      refine lv_iconst (v := 0) hx hb dX0_isAt_20 (by decide) ?_
      have hs : sX0_isAt w i x = 0 := by unfold sX0_isAt; rw [if_neg c_5, if_neg c_13]
      exact fin hJ (by rw [hs]) dX0_isAt_21
    · skip
      refine lv_iconst (v := 1) hx hb dX0_isAt_16 (by decide) ?_
      refine lv_goto (tgt := 21) hx hb dX0_isAt_17 (by decide) ?_
      have hs : sX0_isAt w i x = 1 := by unfold sX0_isAt; rw [if_neg c_5, if_pos c_13]
      exact fin hJ (by rw [hs]) dX0_isAt_21

def sX0_farFrom (w : Row) (i : Nat) (x : Int32) : Int32 := if w (20 + 7 * i) = x then (w (20 + 7 * i + 1)) else (w (20 + 7 * i))
set_option maxHeartbeats 4000000 in
set_option maxRecDepth 100000 in
theorem mX0_farFrom (l : Launch) (E : EE) (B : Nat) (g : GS) (k : Nat) (i : Nat) (x : Int32) (w : Row) (hk : k < 11) (hi : i < 12) (hw : g.1 k = w) : CG l yX0_farFrom cX0_farFrom 2 (some .int) 0 0 E B [.ref (B + (wo k + (5 + i))), .int x] g (some (.int (sX0_farFrom w i x))) g := by
  refine mkI (own := RX0) (ty := .int) rfl (by decide) rfl (rfl) (Nat.le_of_ble_eq_true rfl) (fun P_ e_ s_ m_ a_ below meth cd Q X fin ls hl hJ => ?_)
  have hx := X.1
  have hb := X.2.1
  have hl : lv_has ls 2 [(0, .ref (B + (wo k + (5 + i)))), (1, .int x)] := hl
  refine lv_aload_n hx hb dX0_farFrom_0 rfl (lv_at hl 0 rfl) ?_
  refine gX0_15 X hJ (k := k) (w := w) (by omega) (i := i) (by omega)  hw dX0_farFrom_1 ?_
  refine lv_iload_n hx hb dX0_farFrom_4 rfl (lv_at hl 1 rfl) ?_
  refine lv_icmp_ne (tgt := 15) hx hb dX0_farFrom_5 (by decide) (fun c_5 => ?_) (fun c_5 => ?_)
  · skip
    refine lv_aload_n hx hb dX0_farFrom_15 rfl (lv_at hl 0 rfl) ?_
    refine gX0_15 X hJ (k := k) (w := w) (by omega) (i := i) (by omega)  hw dX0_farFrom_16 ?_
    have hs : sX0_farFrom w i x = w (20 + 7 * i) := by unfold sX0_farFrom; rw [if_neg c_5]
    exact fin hJ (by rw [hs]) dX0_farFrom_19
  · skip
    refine lv_aload_n hx hb dX0_farFrom_8 rfl (lv_at hl 0 rfl) ?_
    refine gX0_18 X hJ (k := k) (w := w) (by omega) (i := i) (by omega)  hw dX0_farFrom_9 ?_
    refine lv_goto (tgt := 19) hx hb dX0_farFrom_12 (by decide) ?_
    have hs : sX0_farFrom w i x = w (20 + 7 * i + 1) := by unfold sX0_farFrom; rw [if_pos c_5]
    exact fin hJ (by rw [hs]) dX0_farFrom_19

def sX0_distance (w : Row) (i : Nat) (x : Int32) : Int32 := (if 0 ≤ (x - (w (20 + 7 * i + 3))) then (x - (w (20 + 7 * i + 3))) else 0 - (x - (w (20 + 7 * i + 3))))
set_option maxHeartbeats 4000000 in
set_option maxRecDepth 100000 in
theorem mX0_distance (l : Launch) (E : EE) (B : Nat) (g : GS) (k : Nat) (i : Nat) (x : Int32) (w : Row) (hk : k < 11) (hi : i < 12) (hw : g.1 k = w) : CG l yX0_distance cX0_distance 2 (some .int) 1 21 E B [.ref (B + (wo k + (5 + i))), .int x] g (some (.int (sX0_distance w i x))) g := by
  refine mkI (own := RX0) (ty := .int) rfl (by decide) rfl (rfl) (Nat.le_of_ble_eq_true rfl) (fun P_ e_ s_ m_ a_ below meth cd Q X fin ls hl hJ => ?_)
  have hx := X.1
  have hb := X.2.1
  have hl : lv_has ls 2 [(0, .ref (B + (wo k + (5 + i)))), (1, .int x)] := hl
  refine lv_iload_n hx hb dX0_distance_0 rfl (lv_at hl 1 rfl) ?_
  refine lv_aload_n hx hb dX0_distance_1 rfl (lv_at hl 0 rfl) ?_
  refine gX0_24 X hJ (k := k) (w := w) (by omega) (i := i) (by omega)  hw dX0_distance_2 ?_
  refine lv_isub hx hb dX0_distance_5 ?_
  refine rabs X tl_X0_39 hl.1 ⟨Nat.le_of_ble_eq_true rfl, Nat.le_of_ble_eq_true rfl⟩ ⟨Nat.le_refl _, Nat.le_refl _⟩ dX0_distance_6 ?_
  have hs : sX0_distance w i x = (if 0 ≤ (x - (w (20 + 7 * i + 3))) then (x - (w (20 + 7 * i + 3))) else 0 - (x - (w (20 + 7 * i + 3)))) := by unfold sX0_distance; rfl
  exact fin hJ (by rw [hs]) dX0_distance_9

def sX0_takeRiddle (w : Row) (i : Nat) (x : Int32) : Row := if w (20 + 7 * i + 2) ≤ 0 then (upd w (20 + 7 * i + 3) 0) else (upd w (20 + 7 * i + 3) (x - x / (w (20 + 7 * i + 2)) * (w (20 + 7 * i + 2))))
set_option maxHeartbeats 4000000 in
set_option maxRecDepth 100000 in
theorem mX0_takeRiddle (l : Launch) (E : EE) (B : Nat) (g : GS) (k : Nat) (i : Nat) (x : Int32) (w : Row) (hk : k < 11) (hi : i < 12) : CG l yX0_takeRiddle cX0_takeRiddle 2 none 0 0 E B [.ref (B + (wo k + (5 + i))), .int x] (upW g k w) none (upW g k (sX0_takeRiddle w i x)) := by
  refine mkV (own := RX0) rfl (by decide) rfl (Nat.le_of_ble_eq_true rfl) (fun P_ e_ s_ m_ a_ below meth cd Q X _ fin ls hl hJ => ?_)
  have hx := X.1
  have hb := X.2.1
  have hl : lv_has ls 2 [(0, .ref (B + (wo k + (5 + i)))), (1, .int x)] := hl
  refine lv_aload_n hx hb dX0_takeRiddle_0 rfl (lv_at hl 0 rfl) ?_
  refine lv_aload_n hx hb dX0_takeRiddle_1 rfl (lv_at hl 0 rfl) ?_
  refine gX0_21 X hJ (k := k) (w := w) (by omega) (i := i) (by omega)  upW_1 dX0_takeRiddle_2 ?_
  refine lv_if_le (tgt := 17) hx hb dX0_takeRiddle_5 (by decide) (fun c_5 => ?_) (fun c_5 => ?_)
  · skip
    refine lv_iconst (v := 0) hx hb dX0_takeRiddle_17 (by decide) ?_
    refine pX0_24 X hJ (k := k) (by omega) (i := i) (by omega) dX0_takeRiddle_18 (fun H locs hJ => ?_)
    have hs : sX0_takeRiddle w i x = upd w (20 + 7 * i + 3) 0 := by unfold sX0_takeRiddle; rw [if_pos c_5]
    exact fin (by rw [hs]; exact hJ) dX0_takeRiddle_21
  · skip
    refine lv_iload_n hx hb dX0_takeRiddle_8 rfl (lv_at hl 1 rfl) ?_
    refine lv_aload_n hx hb dX0_takeRiddle_9 rfl (lv_at hl 0 rfl) ?_
    refine gX0_21 X hJ (k := k) (w := w) (by omega) (i := i) (by omega)  upW_1 dX0_takeRiddle_10 ?_
    refine lv_irem hx hb dX0_takeRiddle_13 (ne0_nle c_5) ?_
    refine lv_goto (tgt := 18) hx hb dX0_takeRiddle_14 (by decide) ?_
    refine pX0_24 X hJ (k := k) (by omega) (i := i) (by omega) dX0_takeRiddle_18 (fun H locs hJ => ?_)
    have hs : sX0_takeRiddle w i x = upd w (20 + 7 * i + 3) (x - x / (w (20 + 7 * i + 2)) * (w (20 + 7 * i + 2))) := by unfold sX0_takeRiddle; rw [if_neg c_5]
    exact fin (by rw [hs]; exact hJ) dX0_takeRiddle_21

