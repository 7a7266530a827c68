def sX1_part (w : Row) (c : Nat) (x : Int32) : Int32 := if x = 0 then (w (104 + 8 * c)) else if x = 1 then (w (104 + 8 * c + 1)) else if x = 2 then (w (104 + 8 * c + 2)) else if x = 3 then (w (104 + 8 * c + 3)) else if x = 4 then (w (104 + 8 * c + 4)) else if x = 5 then (w (104 + 8 * c + 5)) else if x = 6 then (w (104 + 8 * c + 6)) else (w (104 + 8 * c + 7))
set_option maxHeartbeats 4000000 in
set_option maxRecDepth 100000 in
theorem mX1_part (l : Launch) (E : EE) (B : Nat) (g : GS) (k : Nat) (c : Nat) (x : Int32) (w : Row) (hk : k < 11) (hc : c < 8) (hw : g.1 k = w) : CG l yX1_part cX1_part 2 (some .int) 0 0 E B [.ref (B + (wo k + (17 + 3 * c))), .int x] g (some (.int (sX1_part w c x))) g := by
  refine mkI (own := RX1) (ty := .int) rfl (by decide) rfl (rfl) (Nat.le_of_ble_eq_true rfl) (fun P_ e_ s_ m_ a_ below meth cd Q X fin ls hl hJ => ?_)
  have hx := X.1
  have hb := X.2.1
  have hl : lv_has ls 2 [(0, .ref (B + (wo k + (17 + 3 * c)))), (1, .int x)] := hl
  refine lv_iload_n hx hb dX1_part_0 rfl (lv_at hl 1 rfl) ?_
  by_cases c_1_0 : x = 0
  · rw [c_1_0]
    refine lv_tableIn (tgt := 44) hx hb dX1_part_1 (by decide) (by decide) (off := 43) (by decide) (by decide) ?_
    refine lv_aload_n hx hb dX1_part_44 rfl (lv_at hl 0 rfl) ?_
    refine gX1_28 X hJ (k := k) (w := w) (by omega) (i := c) (by omega)  hw dX1_part_45 ?_
    have hs : sX1_part w c x = w (104 + 8 * c) := by unfold sX1_part; rw [if_pos c_1_0]
    exact fin hJ (by rw [hs]) dX1_part_48
  by_cases c_1_1 : x = 1
  · rw [c_1_1]
    refine lv_tableIn (tgt := 49) hx hb dX1_part_1 (by decide) (by decide) (off := 48) (by decide) (by decide) ?_
    refine lv_aload_n hx hb dX1_part_49 rfl (lv_at hl 0 rfl) ?_
    refine gX1_31 X hJ (k := k) (w := w) (by omega) (i := c) (by omega)  hw dX1_part_50 ?_
    have hs : sX1_part w c x = w (104 + 8 * c + 1) := by unfold sX1_part; rw [if_neg c_1_0, if_pos c_1_1]
    exact fin hJ (by rw [hs]) dX1_part_53
  by_cases c_1_2 : x = 2
  · rw [c_1_2]
    refine lv_tableIn (tgt := 54) hx hb dX1_part_1 (by decide) (by decide) (off := 53) (by decide) (by decide) ?_
    refine lv_aload_n hx hb dX1_part_54 rfl (lv_at hl 0 rfl) ?_
    refine gX1_9 X hJ (k := k) (w := w) (by omega) (i := c) (by omega)  hw dX1_part_55 ?_
    have hs : sX1_part w c x = w (104 + 8 * c + 2) := by unfold sX1_part; rw [if_neg c_1_0, if_neg c_1_1, if_pos c_1_2]
    exact fin hJ (by rw [hs]) dX1_part_58
  by_cases c_1_3 : x = 3
  · rw [c_1_3]
    refine lv_tableIn (tgt := 59) hx hb dX1_part_1 (by decide) (by decide) (off := 58) (by decide) (by decide) ?_
    refine lv_aload_n hx hb dX1_part_59 rfl (lv_at hl 0 rfl) ?_
    refine gX1_15 X hJ (k := k) (w := w) (by omega) (i := c) (by omega)  hw dX1_part_60 ?_
    have hs : sX1_part w c x = w (104 + 8 * c + 3) := by unfold sX1_part; rw [if_neg c_1_0, if_neg c_1_1, if_neg c_1_2, if_pos c_1_3]
    exact fin hJ (by rw [hs]) dX1_part_63
  by_cases c_1_4 : x = 4
  · rw [c_1_4]
    refine lv_tableIn (tgt := 64) hx hb dX1_part_1 (by decide) (by decide) (off := 63) (by decide) (by decide) ?_
    refine lv_aload_n hx hb dX1_part_64 rfl (lv_at hl 0 rfl) ?_
    refine gX1_34 X hJ (k := k) (w := w) (by omega) (i := c) (by omega)  hw dX1_part_65 ?_
    have hs : sX1_part w c x = w (104 + 8 * c + 4) := by unfold sX1_part; rw [if_neg c_1_0, if_neg c_1_1, if_neg c_1_2, if_neg c_1_3, if_pos c_1_4]
    exact fin hJ (by rw [hs]) dX1_part_68
  by_cases c_1_5 : x = 5
  · rw [c_1_5]
    refine lv_tableIn (tgt := 69) hx hb dX1_part_1 (by decide) (by decide) (off := 68) (by decide) (by decide) ?_
    refine lv_aload_n hx hb dX1_part_69 rfl (lv_at hl 0 rfl) ?_
    refine gX1_37 X hJ (k := k) (w := w) (by omega) (i := c) (by omega)  hw dX1_part_70 ?_
    have hs : sX1_part w c x = w (104 + 8 * c + 5) := by unfold sX1_part; rw [if_neg c_1_0, if_neg c_1_1, if_neg c_1_2, if_neg c_1_3, if_neg c_1_4, if_pos c_1_5]
    exact fin hJ (by rw [hs]) dX1_part_73
  by_cases c_1_6 : x = 6
  · rw [c_1_6]
    refine lv_tableIn (tgt := 74) hx hb dX1_part_1 (by decide) (by decide) (off := 73) (by decide) (by decide) ?_
    refine lv_aload_n hx hb dX1_part_74 rfl (lv_at hl 0 rfl) ?_
    refine gX1_40 X hJ (k := k) (w := w) (by omega) (i := c) (by omega)  hw dX1_part_75 ?_
    have hs : sX1_part w c x = w (104 + 8 * c + 6) := by unfold sX1_part; rw [if_neg c_1_0, if_neg c_1_1, if_neg c_1_2, if_neg c_1_3, if_neg c_1_4, if_neg c_1_5, if_pos c_1_6]
    exact fin hJ (by rw [hs]) dX1_part_78
  refine rtabOut (tgt := 79) hx hb dX1_part_1 (by decide) (fun h1 h2 => ?_) ?_
  · exfalso; have e0 := ne_toInt (n := 0) c_1_0 (by decide); have e1 := ne_toInt (n := 1) c_1_1 (by decide); have e2 := ne_toInt (n := 2) c_1_2 (by decide); have e3 := ne_toInt (n := 3) c_1_3 (by decide); have e4 := ne_toInt (n := 4) c_1_4 (by decide); have e5 := ne_toInt (n := 5) c_1_5 (by decide); have e6 := ne_toInt (n := 6) c_1_6 (by decide); omega
  refine lv_aload_n hx hb dX1_part_79 rfl (lv_at hl 0 rfl) ?_
  refine gX1_43 X hJ (k := k) (w := w) (by omega) (i := c) (by omega)  hw dX1_part_80 ?_
  have hs : sX1_part w c x = w (104 + 8 * c + 7) := by unfold sX1_part; rw [if_neg c_1_0, if_neg c_1_1, if_neg c_1_2, if_neg c_1_3, if_neg c_1_4, if_neg c_1_5, if_neg c_1_6]
  exact fin hJ (by rw [hs]) dX1_part_83

def sX1_isWaiting (w : Row) (c : Nat) : Int32 := if w (104 + 8 * c + 2) = (-6) then (0) else (1)
set_option maxHeartbeats 4000000 in
set_option maxRecDepth 100000 in
theorem mX1_isWaiting (l : Launch) (E : EE) (B : Nat) (g : GS) (k : Nat) (c : Nat) (w : Row) (hk : k < 11) (hc : c < 8) (hw : g.1 k = w) : CG l yX1_isWaiting cX1_isWaiting 1 (some .boolean) 0 0 E B [.ref (B + (wo k + (17 + 3 * c)))] g (some (.int (sX1_isWaiting w c))) g := by
  refine mkI (own := RX1) (ty := .boolean) rfl (by decide) rfl (by unfold sX1_isWaiting; (repeat' split) <;> rfl) (Nat.le_of_ble_eq_true rfl) (fun P_ e_ s_ m_ a_ below meth cd Q X fin ls hl hJ => ?_)
  have hx := X.1
  have hb := X.2.1
  have hl : lv_has ls 1 [(0, .ref (B + (wo k + (17 + 3 * c))))] := hl
  refine lv_aload_n hx hb dX1_isWaiting_0 rfl (lv_at hl 0 rfl) ?_
  refine gX1_9 X hJ (k := k) (w := w) (by omega) (i := c) (by omega)  hw dX1_isWaiting_1 ?_
  refine lv_bipush (v := (-6)) hx hb dX1_isWaiting_4 (by decide) ?_
  refine lv_icmp_eq (tgt := 13) hx hb dX1_isWaiting_6 (by decide) (fun c_6 => ?_) (fun c_6 => ?_)
  · skip
    refine lv_iconst (v := 0) hx hb dX1_isWaiting_13 (by decide) ?_
    have hs : sX1_isWaiting w c = 0 := by unfold sX1_isWaiting; rw [if_pos c_6]
    exact fin hJ (by rw [hs]) dX1_isWaiting_14
  · skip
    refine lv_iconst (v := 1) hx hb dX1_isWaiting_9 (by decide) ?_
    refine lv_goto (tgt := 14) hx hb dX1_isWaiting_10 (by decide) ?_
    have hs : sX1_isWaiting w c = 1 := by unfold sX1_isWaiting; rw [if_neg c_6]
    exact fin hJ (by rw [hs]) dX1_isWaiting_14

def sX1_lowest (w : Row) (c : Nat) (i : Nat) : Int32 := w (168 + 2 * (12 * c + i))
set_option maxHeartbeats 4000000 in
set_option maxRecDepth 100000 in
theorem mX1_lowest (l : Launch) (E : EE) (B : Nat) (g : GS) (k : Nat) (c : Nat) (i : Nat) (w : Row) (hk : k < 11) (hc : c < 8) (hi : i < 12) (hw : g.1 k = w) : CG l yX1_lowest cX1_lowest 2 (some .int) 0 0 E B [.ref (B + (wo k + (17 + 3 * c))), .ref (B + (wo k + (5 + i)))] g (some (.int (sX1_lowest w c i))) g := by
  refine mkI (own := RX1) (ty := .int) rfl (by decide) rfl (rfl) (Nat.le_of_ble_eq_true rfl) (fun P_ e_ s_ m_ a_ below meth cd Q X fin ls hl hJ => ?_)
  have hx := X.1
  have hb := X.2.1
  have hl : lv_has ls 2 [(0, .ref (B + (wo k + (17 + 3 * c)))), (1, .ref (B + (wo k + (5 + i))))] := hl
  refine lv_aload_n hx hb dX1_lowest_0 rfl (lv_at hl 0 rfl) ?_
  refine gX1_18 X hJ (k := k) (w := w) (by omega) (i := c) (by omega)  hw dX1_lowest_1 ?_
  refine lv_aload_n hx hb dX1_lowest_4 rfl (lv_at hl 1 rfl) ?_
  refine gX1_52 X hJ (k := k) (w := w) (by omega) (i := i) (by omega)  hw dX1_lowest_5 ?_
  refine ld_lo X hJ (k := k) (w := w) (by omega) (i := c) (by omega) hw (j := i) (rfl) (by omega) dX1_lowest_8 ?_
  have hs : sX1_lowest w c i = w (168 + 2 * (12 * c + i)) := by unfold sX1_lowest; rfl
  exact fin hJ (by rw [hs]) dX1_lowest_9

def sX1_highest (w : Row) (c : Nat) (i : Nat) : Int32 := w (168 + 2 * (12 * c + i) + 1)
set_option maxHeartbeats 4000000 in
set_option maxRecDepth 100000 in
theorem mX1_highest (l : Launch) (E : EE) (B : Nat) (g : GS) (k : Nat) (c : Nat) (i : Nat) (w : Row) (hk : k < 11) (hc : c < 8) (hi : i < 12) (hw : g.1 k = w) : CG l yX1_highest cX1_highest 2 (some .int) 0 0 E B [.ref (B + (wo k + (17 + 3 * c))), .ref (B + (wo k + (5 + i)))] g (some (.int (sX1_highest w c i))) g := by
  refine mkI (own := RX1) (ty := .int) rfl (by decide) rfl (rfl) (Nat.le_of_ble_eq_true rfl) (fun P_ e_ s_ m_ a_ below meth cd Q X fin ls hl hJ => ?_)
  have hx := X.1
  have hb := X.2.1
  have hl : lv_has ls 2 [(0, .ref (B + (wo k + (17 + 3 * c)))), (1, .ref (B + (wo k + (5 + i))))] := hl
  refine lv_aload_n hx hb dX1_highest_0 rfl (lv_at hl 0 rfl) ?_
  refine gX1_22 X hJ (k := k) (w := w) (by omega) (i := c) (by omega)  hw dX1_highest_1 ?_
  refine lv_aload_n hx hb dX1_highest_4 rfl (lv_at hl 1 rfl) ?_
  refine gX1_52 X hJ (k := k) (w := w) (by omega) (i := i) (by omega)  hw dX1_highest_5 ?_
  refine ld_hi X hJ (k := k) (w := w) (by omega) (i := c) (by omega) hw (j := i) (rfl) (by omega) dX1_highest_8 ?_
  have hs : sX1_highest w c i = w (168 + 2 * (12 * c + i) + 1) := by unfold sX1_highest; rfl
  exact fin hJ (by rw [hs]) dX1_highest_9

def sX1_numbersLeft (w : Row) (c : Nat) (i : Nat) : Int32 := ((sX1_highest w c i) - (sX1_lowest w c i)) + 1
set_option maxHeartbeats 4000000 in
set_option maxRecDepth 100000 in
theorem mX1_numbersLeft (l : Launch) (E : EE) (B : Nat) (g : GS) (k : Nat) (c : Nat) (i : Nat) (w : Row) (hk : k < 11) (hc : c < 8) (hi : i < 12) (hw : g.1 k = w) : CG l yX1_numbersLeft cX1_numbersLeft 2 (some .int) 1 21 E B [.ref (B + (wo k + (17 + 3 * c))), .ref (B + (wo k + (5 + i)))] g (some (.int (sX1_numbersLeft w c i))) g := by
  refine mkI (own := RX1) (ty := .int) rfl (by decide) rfl (rfl) (Nat.le_of_ble_eq_true rfl) (fun P_ e_ s_ m_ a_ below meth cd Q X fin ls hl hJ => ?_)
  have hx := X.1
  have hb := X.2.1
  have hl : lv_has ls 2 [(0, .ref (B + (wo k + (17 + 3 * c)))), (1, .ref (B + (wo k + (5 + i))))] := hl
  refine lv_aload_n hx hb dX1_numbersLeft_0 rfl (lv_at hl 0 rfl) ?_
  refine lv_aload_n hx hb dX1_numbersLeft_1 rfl (lv_at hl 1 rfl) ?_
  refine kX1_55 X hJ (mX1_highest l E B _ k c i w (by omega) (by omega) (by omega) hw) rfl (lt_W (by omega) (by omega)) (at_C (by omega) (by omega) hw) hl.1 ⟨Nat.le_of_ble_eq_true rfl, Nat.le_of_ble_eq_true rfl⟩ ⟨Nat.le_refl _, Nat.le_refl _⟩ (rest := []) rfl (Nat.le_of_ble_eq_true rfl) dX1_numbersLeft_2 (fun H locs hJ => ?_)
  refine lv_aload_n hx hb dX1_numbersLeft_5 rfl (lv_at hl 0 rfl) ?_
  refine lv_aload_n hx hb dX1_numbersLeft_6 rfl (lv_at hl 1 rfl) ?_
  refine kX1_59 X hJ (mX1_lowest l E B _ k c i w (by omega) (by omega) (by omega) hw) rfl (lt_W (by omega) (by omega)) (at_C (by omega) (by omega) hw) hl.1 ⟨Nat.le_of_ble_eq_true rfl, Nat.le_of_ble_eq_true rfl⟩ ⟨Nat.le_refl _, Nat.le_refl _⟩ (rest := [.int (sX1_highest w c i)]) rfl (Nat.le_of_ble_eq_true rfl) dX1_numbersLeft_7 (fun H locs hJ => ?_)
  refine lv_isub hx hb dX1_numbersLeft_10 ?_
  refine lv_iconst (v := 1) hx hb dX1_numbersLeft_11 (by decide) ?_
  refine lv_iadd hx hb dX1_numbersLeft_12 ?_
  have hs : sX1_numbersLeft w c i = ((sX1_highest w c i) - (sX1_lowest w c i)) + 1 := by unfold sX1_numbersLeft; rfl
  exact fin hJ (by rw [hs]) dX1_numbersLeft_13

def sX1_forget (w : Row) (c : Nat) (i : Nat) : Row := upd (upd w (168 + 2 * (12 * c + i)) 0) (168 + 2 * (12 * c + i) + 1) (((upd w (168 + 2 * (12 * c + i)) 0) (20 + 7 * i + 2)) - 1)
set_option maxHeartbeats 4000000 in
set_option maxRecDepth 100000 in
theorem mX1_forget (l : Launch) (E : EE) (B : Nat) (g : GS) (k : Nat) (c : Nat) (i : Nat) (w : Row) (hk : k < 11) (hc : c < 8) (hi : i < 12) : CG l yX1_forget cX1_forget 2 none 0 0 E B [.ref (B + (wo k + (17 + 3 * c))), .ref (B + (wo k + (5 + i)))] (upW g k w) none (upW g k (sX1_forget w c i)) := by
  refine mkV (own := RX1) rfl (by decide) rfl (Nat.le_of_ble_eq_true rfl) (fun P_ e_ s_ m_ a_ below meth cd Q X _ fin ls hl hJ => ?_)
  have hx := X.1
  have hb := X.2.1
  have hl : lv_has ls 2 [(0, .ref (B + (wo k + (17 + 3 * c)))), (1, .ref (B + (wo k + (5 + i))))] := hl
  refine lv_aload_n hx hb dX1_forget_0 rfl (lv_at hl 0 rfl) ?_
  refine gX1_18 X hJ (k := k) (w := w) (by omega) (i := c) (by omega)  upW_1 dX1_forget_1 ?_
  refine lv_aload_n hx hb dX1_forget_4 rfl (lv_at hl 1 rfl) ?_
  refine gX1_52 X hJ (k := k) (w := w) (by omega) (i := i) (by omega)  upW_1 dX1_forget_5 ?_
  refine lv_iconst (v := 0) hx hb dX1_forget_8 (by decide) ?_
  refine st_lo X hJ (k := k) (by omega) (i := c) (by omega) (j := i) (rfl) (by omega) dX1_forget_9 (fun H locs hJ => ?_)
  refine lv_aload_n hx hb dX1_forget_10 rfl (lv_at hl 0 rfl) ?_
  refine gX1_22 X hJ (k := k) (w := upd w (168 + 2 * (12 * c + i)) 0) (by omega) (i := c) (by omega)  upW_1 dX1_forget_11 ?_
  refine lv_aload_n hx hb dX1_forget_14 rfl (lv_at hl 1 rfl) ?_
  refine gX1_52 X hJ (k := k) (w := upd w (168 + 2 * (12 * c + i)) 0) (by omega) (i := i) (by omega)  upW_1 dX1_forget_15 ?_
  refine lv_aload_n hx hb dX1_forget_18 rfl (lv_at hl 1 rfl) ?_
  refine gX1_62 X hJ (k := k) (w := upd w (168 + 2 * (12 * c + i)) 0) (by omega) (i := i) (by omega)  upW_1 dX1_forget_19 ?_
  refine lv_iconst (v := 1) hx hb dX1_forget_22 (by decide) ?_
  refine lv_isub hx hb dX1_forget_23 ?_
  refine st_hi X hJ (k := k) (by omega) (i := c) (by omega) (j := i) (rfl) (by omega) dX1_forget_24 (fun H locs hJ => ?_)
  have hs : sX1_forget w c i = upd (upd w (168 + 2 * (12 * c + i)) 0) (168 + 2 * (12 * c + i) + 1) (((upd w (168 + 2 * (12 * c + i)) 0) (20 + 7 * i + 2)) - 1) := by unfold sX1_forget; rfl
  exact fin (by rw [hs]; exact hJ) dX1_forget_25

def sX1_halve (w : Row) (c : Nat) (i : Nat) : Row := if ((sX1_lowest w c i) + (sX1_highest w c i)) / 2 < w (20 + 7 * i + 3) then (upd w (168 + 2 * (12 * c + i)) ((((sX1_lowest w c i) + (sX1_highest w c i)) / 2) + 1)) else (upd w (168 + 2 * (12 * c + i) + 1) (((sX1_lowest w c i) + (sX1_highest w c i)) / 2))
set_option maxHeartbeats 4000000 in
set_option maxRecDepth 100000 in
theorem mX1_halve (l : Launch) (E : EE) (B : Nat) (g : GS) (k : Nat) (c : Nat) (i : Nat) (w : Row) (hk : k < 11) (hc : c < 8) (hi : i < 12) : CG l yX1_halve cX1_halve 3 none 1 21 E B [.ref (B + (wo k + (17 + 3 * c))), .ref (B + (wo k + (5 + i)))] (upW g k w) none (upW g k (sX1_halve w c i)) := by
  refine mkV (own := RX1) rfl (by decide) rfl (Nat.le_of_ble_eq_true rfl) (fun P_ e_ s_ m_ a_ below meth cd Q X _ fin ls hl hJ => ?_)
  have hx := X.1
  have hb := X.2.1
  have hl : lv_has ls 3 [(0, .ref (B + (wo k + (17 + 3 * c)))), (1, .ref (B + (wo k + (5 + i))))] := hl
  refine lv_aload_n hx hb dX1_halve_0 rfl (lv_at hl 0 rfl) ?_
  refine lv_aload_n hx hb dX1_halve_1 rfl (lv_at hl 1 rfl) ?_
  refine kX1_59 X hJ (mX1_lowest l E B _ k c i w (by omega) (by omega) (by omega) upW_1) rfl (lt_W (by omega) (by omega)) (at_C (by omega) (by omega) upW_1) hl.1 ⟨Nat.le_of_ble_eq_true rfl, Nat.le_of_ble_eq_true rfl⟩ ⟨Nat.le_refl _, Nat.le_refl _⟩ (rest := []) rfl (Nat.le_of_ble_eq_true rfl) dX1_halve_2 (fun H locs hJ => ?_)
  refine lv_aload_n hx hb dX1_halve_5 rfl (lv_at hl 0 rfl) ?_
  refine lv_aload_n hx hb dX1_halve_6 rfl (lv_at hl 1 rfl) ?_
  refine kX1_55 X hJ (mX1_highest l E B _ k c i w (by omega) (by omega) (by omega) upW_1) rfl (lt_W (by omega) (by omega)) (at_C (by omega) (by omega) upW_1) hl.1 ⟨Nat.le_of_ble_eq_true rfl, Nat.le_of_ble_eq_true rfl⟩ ⟨Nat.le_refl _, Nat.le_refl _⟩ (rest := [.int (sX1_lowest w c i)]) rfl (Nat.le_of_ble_eq_true rfl) dX1_halve_7 (fun H locs hJ => ?_)
  refine lv_iadd hx hb dX1_halve_10 ?_
  refine lv_iconst (v := 2) hx hb dX1_halve_11 (by decide) ?_
  refine lv_idiv hx hb dX1_halve_12 (by decide) ?_
  refine lv_istore_n (lv' := [(2, .int (((sX1_lowest w c i) + (sX1_highest w c i)) / 2)), (0, .ref (B + (wo k + (17 + 3 * c)))), (1, .ref (B + (wo k + (5 + i))))]) hx hb dX1_halve_13 rfl hl (by decide) rfl (fun ls hl => ?_)
  refine lv_aload_n hx hb dX1_halve_14 rfl (lv_at hl 2 rfl) ?_
  refine gX1_65 X hJ (k := k) (w := w) (by omega) (i := i) (by omega)  upW_1 dX1_halve_15 ?_
  refine lv_iload_n hx hb dX1_halve_18 rfl (lv_at hl 0 rfl) ?_
  refine lv_icmp_gt (tgt := 35) hx hb dX1_halve_19 (by decide) (fun c_19 => ?_) (fun c_19 => ?_)
  · skip
    refine lv_aload_n hx hb dX1_halve_35 rfl (lv_at hl 1 rfl) ?_
    refine gX1_18 X hJ (k := k) (w := w) (by omega) (i := c) (by omega)  upW_1 dX1_halve_36 ?_
    refine lv_aload_n hx hb dX1_halve_39 rfl (lv_at hl 2 rfl) ?_
    refine gX1_52 X hJ (k := k) (w := w) (by omega) (i := i) (by omega)  upW_1 dX1_halve_40 ?_
    refine lv_iload_n hx hb dX1_halve_43 rfl (lv_at hl 0 rfl) ?_
    refine lv_iconst (v := 1) hx hb dX1_halve_44 (by decide) ?_
    refine lv_iadd hx hb dX1_halve_45 ?_
    refine st_lo X hJ (k := k) (by omega) (i := c) (by omega) (j := i) (rfl) (by omega) dX1_halve_46 (fun H locs hJ => ?_)
    have hs : sX1_halve w c i = upd w (168 + 2 * (12 * c + i)) ((((sX1_lowest w c i) + (sX1_highest w c i)) / 2) + 1) := by unfold sX1_halve; rw [if_pos c_19]
    exact fin (by rw [hs]; exact hJ) dX1_halve_47
  · skip
    refine lv_aload_n hx hb dX1_halve_22 rfl (lv_at hl 1 rfl) ?_
    refine gX1_22 X hJ (k := k) (w := w) (by omega) (i := c) (by omega)  upW_1 dX1_halve_23 ?_
    refine lv_aload_n hx hb dX1_halve_26 rfl (lv_at hl 2 rfl) ?_
    refine gX1_52 X hJ (k := k) (w := w) (by omega) (i := i) (by omega)  upW_1 dX1_halve_27 ?_
    refine lv_iload_n hx hb dX1_halve_30 rfl (lv_at hl 0 rfl) ?_
    refine st_hi X hJ (k := k) (by omega) (i := c) (by omega) (j := i) (rfl) (by omega) dX1_halve_31 (fun H locs hJ => ?_)
    refine lv_goto (tgt := 47) hx hb dX1_halve_32 (by decide) ?_
    have hs : sX1_halve w c i = upd w (168 + 2 * (12 * c + i) + 1) (((sX1_lowest w c i) + (sX1_highest w c i)) / 2) := by unfold sX1_halve; rw [if_neg c_19]
    exact fin (by rw [hs]; exact hJ) dX1_halve_47

def sX1_numbersNearer (w : Row) (c : Nat) (i : Nat) (x : Int32) (y : Int32) : Int32 := if y ≤ x then (if x ≤ y then (0) else ((if 0 < (((sX1_highest w c i) - (if (sX1_lowest w c i) < (((x + y) / 2) + 1) then (((x + y) / 2) + 1) else (sX1_lowest w c i))) + 1) then (((sX1_highest w c i) - (if (sX1_lowest w c i) < (((x + y) / 2) + 1) then (((x + y) / 2) + 1) else (sX1_lowest w c i))) + 1) else 0))) else ((if 0 < (((if (((x + y) - 1) / 2) < (sX1_highest w c i) then (((x + y) - 1) / 2) else (sX1_highest w c i)) - (sX1_lowest w c i)) + 1) then (((if (((x + y) - 1) / 2) < (sX1_highest w c i) then (((x + y) - 1) / 2) else (sX1_highest w c i)) - (sX1_lowest w c i)) + 1) else 0))
set_option maxHeartbeats 4000000 in
set_option maxRecDepth 100000 in
theorem mX1_numbersNearer (l : Launch) (E : EE) (B : Nat) (g : GS) (k : Nat) (c : Nat) (i : Nat) (x : Int32) (y : Int32) (w : Row) (hk : k < 11) (hc : c < 8) (hi : i < 12) (hw : g.1 k = w) : CG l yX1_numbersNearer cX1_numbersNearer 5 (some .int) 1 21 E B [.ref (B + (wo k + (17 + 3 * c))), .ref (B + (wo k + (5 + i))), .int x, .int y] g (some (.int (sX1_numbersNearer w c i x y))) g := by
  refine mkI (own := RX1) (ty := .int) rfl (by decide) rfl (rfl) (Nat.le_of_ble_eq_true rfl) (fun P_ e_ s_ m_ a_ below meth cd Q X fin ls hl hJ => ?_)
  have hx := X.1
  have hb := X.2.1
  have hl : lv_has ls 5 [(0, .ref (B + (wo k + (17 + 3 * c)))), (1, .ref (B + (wo k + (5 + i)))), (2, .int x), (3, .int y)] := hl
  refine lv_iload_n hx hb dX1_numbersNearer_0 rfl (lv_at hl 2 rfl) ?_
  refine lv_iload_n hx hb dX1_numbersNearer_1 rfl (lv_at hl 3 rfl) ?_
  refine lv_iadd hx hb dX1_numbersNearer_2 ?_
  refine lv_istore (lv' := [(4, .int (x + y)), (0, .ref (B + (wo k + (17 + 3 * c)))), (1, .ref (B + (wo k + (5 + i)))), (2, .int x), (3, .int y)]) hx hb dX1_numbersNearer_3 hl (by decide) rfl (fun ls hl => ?_)
  refine lv_iload_n hx hb dX1_numbersNearer_5 rfl (lv_at hl 3 rfl) ?_
  refine lv_iload_n hx hb dX1_numbersNearer_6 rfl (lv_at hl 4 rfl) ?_
  refine lv_icmp_ge (tgt := 37) hx hb dX1_numbersNearer_7 (by decide) (fun c_7 => ?_) (fun c_7 => ?_)
  · skip
    refine lv_iload_n hx hb dX1_numbersNearer_37 rfl (lv_at hl 3 rfl) ?_
    refine lv_iload_n hx hb dX1_numbersNearer_38 rfl (lv_at hl 4 rfl) ?_
    refine lv_icmp_le (tgt := 69) hx hb dX1_numbersNearer_39 (by decide) (fun c_39 => ?_) (fun c_39 => ?_)
    · skip
      refine lv_iconst (v := 0) hx hb dX1_numbersNearer_69 (by decide) ?_
      have hs : sX1_numbersNearer w c i x y = 0 := by unfold sX1_numbersNearer; rw [if_pos c_7, if_pos c_39]
      exact fin hJ (by rw [hs]) dX1_numbersNearer_70
    · skip
      refine lv_iconst (v := 0) hx hb dX1_numbersNearer_42 (by decide) ?_
      refine lv_aload_n hx hb dX1_numbersNearer_43 rfl (lv_at hl 1 rfl) ?_
      refine lv_aload_n hx hb dX1_numbersNearer_44 rfl (lv_at hl 2 rfl) ?_
      refine kX1_55 X hJ (mX1_highest l E B _ k c i w (by omega) (by omega) (by omega) hw) rfl (lt_W (by omega) (by omega)) (at_C (by omega) (by omega) hw) hl.1 ⟨Nat.le_of_ble_eq_true rfl, Nat.le_of_ble_eq_true rfl⟩ ⟨Nat.le_refl _, Nat.le_refl _⟩ (rest := [.int 0]) rfl (Nat.le_of_ble_eq_true rfl) dX1_numbersNearer_45 (fun H locs hJ => ?_)
      refine lv_aload_n hx hb dX1_numbersNearer_48 rfl (lv_at hl 1 rfl) ?_
      refine lv_aload_n hx hb dX1_numbersNearer_49 rfl (lv_at hl 2 rfl) ?_
      refine kX1_59 X hJ (mX1_lowest l E B _ k c i w (by omega) (by omega) (by omega) hw) rfl (lt_W (by omega) (by omega)) (at_C (by omega) (by omega) hw) hl.1 ⟨Nat.le_of_ble_eq_true rfl, Nat.le_of_ble_eq_true rfl⟩ ⟨Nat.le_refl _, Nat.le_refl _⟩ (rest := [.int (sX1_highest w c i), .int 0]) rfl (Nat.le_of_ble_eq_true rfl) dX1_numbersNearer_50 (fun H locs hJ => ?_)
      refine lv_iload hx hb dX1_numbersNearer_53 (lv_at hl 0 rfl) ?_
      refine lv_iconst (v := 2) hx hb dX1_numbersNearer_55 (by decide) ?_
      refine lv_idiv hx hb dX1_numbersNearer_56 (by decide) ?_
      refine lv_iconst (v := 1) hx hb dX1_numbersNearer_57 (by decide) ?_
      refine lv_iadd hx hb dX1_numbersNearer_58 ?_
      refine rmax X tl_X1_74 hl.1 ⟨Nat.le_of_ble_eq_true rfl, Nat.le_of_ble_eq_true rfl⟩ ⟨Nat.le_refl _, Nat.le_refl _⟩ dX1_numbersNearer_59 ?_
      refine lv_isub hx hb dX1_numbersNearer_62 ?_
      refine lv_iconst (v := 1) hx hb dX1_numbersNearer_63 (by decide) ?_
      refine lv_iadd hx hb dX1_numbersNearer_64 ?_
      refine rmax X tl_X1_74 hl.1 ⟨Nat.le_of_ble_eq_true rfl, Nat.le_of_ble_eq_true rfl⟩ ⟨Nat.le_refl _, Nat.le_refl _⟩ dX1_numbersNearer_65 ?_
      have hs : sX1_numbersNearer w c i x y = (if 0 < (((sX1_highest w c i) - (if (sX1_lowest w c i) < (((x + y) / 2) + 1) then (((x + y) / 2) + 1) else (sX1_lowest w c i))) + 1) then (((sX1_highest w c i) - (if (sX1_lowest w c i) < (((x + y) / 2) + 1) then (((x + y) / 2) + 1) else (sX1_lowest w c i))) + 1) else 0) := by unfold sX1_numbersNearer; rw [if_pos c_7, if_neg c_39]
      exact fin hJ (by rw [hs]) dX1_numbersNearer_68
  · skip
    refine lv_iconst (v := 0) hx hb dX1_numbersNearer_10 (by decide) ?_
    refine lv_aload_n hx hb dX1_numbersNearer_11 rfl (lv_at hl 1 rfl) ?_
    refine lv_aload_n hx hb dX1_numbersNearer_12 rfl (lv_at hl 2 rfl) ?_
    refine kX1_55 X hJ (mX1_highest l E B _ k c i w (by omega) (by omega) (by omega) hw) rfl (lt_W (by omega) (by omega)) (at_C (by omega) (by omega) hw) hl.1 ⟨Nat.le_of_ble_eq_true rfl, Nat.le_of_ble_eq_true rfl⟩ ⟨Nat.le_refl _, Nat.le_refl _⟩ (rest := [.int 0]) rfl (Nat.le_of_ble_eq_true rfl) dX1_numbersNearer_13 (fun H locs hJ => ?_)
    refine lv_iload hx hb dX1_numbersNearer_16 (lv_at hl 0 rfl) ?_
    refine lv_iconst (v := 1) hx hb dX1_numbersNearer_18 (by decide) ?_
    refine lv_isub hx hb dX1_numbersNearer_19 ?_
    refine lv_iconst (v := 2) hx hb dX1_numbersNearer_20 (by decide) ?_
    refine lv_idiv hx hb dX1_numbersNearer_21 (by decide) ?_
    refine rmin X tl_X1_68 hl.1 ⟨Nat.le_of_ble_eq_true rfl, Nat.le_of_ble_eq_true rfl⟩ ⟨Nat.le_refl _, Nat.le_refl _⟩ dX1_numbersNearer_22 ?_
    refine lv_aload_n hx hb dX1_numbersNearer_25 rfl (lv_at hl 1 rfl) ?_
    refine lv_aload_n hx hb dX1_numbersNearer_26 rfl (lv_at hl 2 rfl) ?_
    refine kX1_59 X hJ (mX1_lowest l E B _ k c i w (by omega) (by omega) (by omega) hw) rfl (lt_W (by omega) (by omega)) (at_C (by omega) (by omega) hw) hl.1 ⟨Nat.le_of_ble_eq_true rfl, Nat.le_of_ble_eq_true rfl⟩ ⟨Nat.le_refl _, Nat.le_refl _⟩ (rest := [.int (if (((x + y) - 1) / 2) < (sX1_highest w c i) then (((x + y) - 1) / 2) else (sX1_highest w c i)), .int 0]) rfl (Nat.le_of_ble_eq_true rfl) dX1_numbersNearer_27 (fun H locs hJ => ?_)
    refine lv_isub hx hb dX1_numbersNearer_30 ?_
    refine lv_iconst (v := 1) hx hb dX1_numbersNearer_31 (by decide) ?_
    refine lv_iadd hx hb dX1_numbersNearer_32 ?_
    refine rmax X tl_X1_74 hl.1 ⟨Nat.le_of_ble_eq_true rfl, Nat.le_of_ble_eq_true rfl⟩ ⟨Nat.le_refl _, Nat.le_refl _⟩ dX1_numbersNearer_33 ?_
    have hs : sX1_numbersNearer w c i x y = (if 0 < (((if (((x + y) - 1) / 2) < (sX1_highest w c i) then (((x + y) - 1) / 2) else (sX1_highest w c i)) - (sX1_lowest w c i)) + 1) then (((if (((x + y) - 1) / 2) < (sX1_highest w c i) then (((x + y) - 1) / 2) else (sX1_highest w c i)) - (sX1_lowest w c i)) + 1) else 0) := by unfold sX1_numbersNearer; rw [if_neg c_7]
    exact fin hJ (by rw [hs]) dX1_numbersNearer_36

def sX1_pay (w : Row) (c : Nat) (x : Int32) (i : Nat) : Row := upd (upd (upd w (104 + 8 * c + 1) ((w (104 + 8 * c + 1)) - x)) (104 + 8 * c + 6) (((upd w (104 + 8 * c + 1) ((w (104 + 8 * c + 1)) - x)) (104 + 8 * c + 6)) + x)) (20 + 7 * i + 4) (((upd (upd w (104 + 8 * c + 1) ((w (104 + 8 * c + 1)) - x)) (104 + 8 * c + 6) (((upd w (104 + 8 * c + 1) ((w (104 + 8 * c + 1)) - x)) (104 + 8 * c + 6)) + x)) (20 + 7 * i + 4)) + x)
set_option maxHeartbeats 4000000 in
set_option maxRecDepth 100000 in
theorem mX1_pay (l : Launch) (E : EE) (B : Nat) (g : GS) (k : Nat) (c : Nat) (x : Int32) (i : Nat) (w : Row) (hk : k < 11) (hc : c < 8) (hi : i < 12) : CG l yX1_pay cX1_pay 3 none 0 0 E B [.ref (B + (wo k + (17 + 3 * c))), .int x, .ref (B + (wo k + (5 + i)))] (upW g k w) none (upW g k (sX1_pay w c x i)) := by
  refine mkV (own := RX1) rfl (by decide) rfl (Nat.le_of_ble_eq_true rfl) (fun P_ e_ s_ m_ a_ below meth cd Q X _ fin ls hl hJ => ?_)
  have hx := X.1
  have hb := X.2.1
  have hl : lv_has ls 3 [(0, .ref (B + (wo k + (17 + 3 * c)))), (1, .int x), (2, .ref (B + (wo k + (5 + i))))] := hl
  refine lv_aload_n hx hb dX1_pay_0 rfl (lv_at hl 0 rfl) ?_
  refine lv_dup hx hb dX1_pay_1 rfl ?_
  refine gX1_31 X hJ (k := k) (w := w) (by omega) (i := c) (by omega)  upW_1 dX1_pay_2 ?_
  refine lv_iload_n hx hb dX1_pay_5 rfl (lv_at hl 1 rfl) ?_
  refine lv_isub hx hb dX1_pay_6 ?_
  refine pX1_31 X hJ (k := k) (by omega) (i := c) (by omega) dX1_pay_7 (fun H locs hJ => ?_)
  refine lv_aload_n hx hb dX1_pay_10 rfl (lv_at hl 0 rfl) ?_
  refine lv_dup hx hb dX1_pay_11 rfl ?_
  refine gX1_40 X hJ (k := k) (w := upd w (104 + 8 * c + 1) ((w (104 + 8 * c + 1)) - x)) (by omega) (i := c) (by omega)  upW_1 dX1_pay_12 ?_
  refine lv_iload_n hx hb dX1_pay_15 rfl (lv_at hl 1 rfl) ?_
  refine lv_iadd hx hb dX1_pay_16 ?_
  refine pX1_40 X hJ (k := k) (by omega) (i := c) (by omega) dX1_pay_17 (fun H locs hJ => ?_)
  refine lv_aload_n hx hb dX1_pay_20 rfl (lv_at hl 2 rfl) ?_
  refine lv_dup hx hb dX1_pay_21 rfl ?_
  refine gX1_77 X hJ (k := k) (w := upd (upd w (104 + 8 * c + 1) ((w (104 + 8 * c + 1)) - x)) (104 + 8 * c + 6) (((upd w (104 + 8 * c + 1) ((w (104 + 8 * c + 1)) - x)) (104 + 8 * c + 6)) + x)) (by omega) (i := i) (by omega)  upW_1 dX1_pay_22 ?_
  refine lv_iload_n hx hb dX1_pay_25 rfl (lv_at hl 1 rfl) ?_
  refine lv_iadd hx hb dX1_pay_26 ?_
  refine pX1_77 X hJ (k := k) (by omega) (i := i) (by omega) dX1_pay_27 (fun H locs hJ => ?_)
  have hs : sX1_pay w c x i = upd (upd (upd w (104 + 8 * c + 1) ((w (104 + 8 * c + 1)) - x)) (104 + 8 * c + 6) (((upd w (104 + 8 * c + 1) ((w (104 + 8 * c + 1)) - x)) (104 + 8 * c + 6)) + x)) (20 + 7 * i + 4) (((upd (upd w (104 + 8 * c + 1) ((w (104 + 8 * c + 1)) - x)) (104 + 8 * c + 6) (((upd w (104 + 8 * c + 1) ((w (104 + 8 * c + 1)) - x)) (104 + 8 * c + 6)) + x)) (20 + 7 * i + 4)) + x) := by unfold sX1_pay; rfl
  exact fin (by rw [hs]; exact hJ) dX1_pay_30

def sX1_takeGift (w : Row) (c : Nat) (x : Int32) (i : Nat) : Row := upd (upd (upd w (20 + 7 * i + 4) ((w (20 + 7 * i + 4)) - (if (w (20 + 7 * i + 4)) < x then (w (20 + 7 * i + 4)) else x))) (104 + 8 * c + 1) (((upd w (20 + 7 * i + 4) ((w (20 + 7 * i + 4)) - (if (w (20 + 7 * i + 4)) < x then (w (20 + 7 * i + 4)) else x))) (104 + 8 * c + 1)) + (if (w (20 + 7 * i + 4)) < x then (w (20 + 7 * i + 4)) else x))) (104 + 8 * c + 7) (((upd (upd w (20 + 7 * i + 4) ((w (20 + 7 * i + 4)) - (if (w (20 + 7 * i + 4)) < x then (w (20 + 7 * i + 4)) else x))) (104 + 8 * c + 1) (((upd w (20 + 7 * i + 4) ((w (20 + 7 * i + 4)) - (if (w (20 + 7 * i + 4)) < x then (w (20 + 7 * i + 4)) else x))) (104 + 8 * c + 1)) + (if (w (20 + 7 * i + 4)) < x then (w (20 + 7 * i + 4)) else x))) (104 + 8 * c + 7)) + (if (w (20 + 7 * i + 4)) < x then (w (20 + 7 * i + 4)) else x))
set_option maxHeartbeats 4000000 in
set_option maxRecDepth 100000 in
theorem mX1_takeGift (l : Launch) (E : EE) (B : Nat) (g : GS) (k : Nat) (c : Nat) (x : Int32) (i : Nat) (w : Row) (hk : k < 11) (hc : c < 8) (hi : i < 12) : CG l yX1_takeGift cX1_takeGift 4 none 1 21 E B [.ref (B + (wo k + (17 + 3 * c))), .int x, .ref (B + (wo k + (5 + i)))] (upW g k w) none (upW g k (sX1_takeGift w c x i)) := by
  refine mkV (own := RX1) rfl (by decide) rfl (Nat.le_of_ble_eq_true rfl) (fun P_ e_ s_ m_ a_ below meth cd Q X _ fin ls hl hJ => ?_)
  have hx := X.1
  have hb := X.2.1
  have hl : lv_has ls 4 [(0, .ref (B + (wo k + (17 + 3 * c)))), (1, .int x), (2, .ref (B + (wo k + (5 + i))))] := hl
  refine lv_iload_n hx hb dX1_takeGift_0 rfl (lv_at hl 1 rfl) ?_
  refine lv_aload_n hx hb dX1_takeGift_1 rfl (lv_at hl 2 rfl) ?_
  refine gX1_77 X hJ (k := k) (w := w) (by omega) (i := i) (by omega)  upW_1 dX1_takeGift_2 ?_
  refine rmin X tl_X1_68 hl.1 ⟨Nat.le_of_ble_eq_true rfl, Nat.le_of_ble_eq_true rfl⟩ ⟨Nat.le_refl _, Nat.le_refl _⟩ dX1_takeGift_5 ?_
  refine lv_istore_n (lv' := [(3, .int (if (w (20 + 7 * i + 4)) < x then (w (20 + 7 * i + 4)) else x)), (0, .ref (B + (wo k + (17 + 3 * c)))), (1, .int x), (2, .ref (B + (wo k + (5 + i))))]) hx hb dX1_takeGift_8 rfl hl (by decide) rfl (fun ls hl => ?_)
  refine lv_aload_n hx hb dX1_takeGift_9 rfl (lv_at hl 3 rfl) ?_
  refine lv_dup hx hb dX1_takeGift_10 rfl ?_
  refine gX1_77 X hJ (k := k) (w := w) (by omega) (i := i) (by omega)  upW_1 dX1_takeGift_11 ?_
  refine lv_iload_n hx hb dX1_takeGift_14 rfl (lv_at hl 0 rfl) ?_
  refine lv_isub hx hb dX1_takeGift_15 ?_
  refine pX1_77 X hJ (k := k) (by omega) (i := i) (by omega) dX1_takeGift_16 (fun H locs hJ => ?_)
  refine lv_aload_n hx hb dX1_takeGift_19 rfl (lv_at hl 1 rfl) ?_
  refine lv_dup hx hb dX1_takeGift_20 rfl ?_
  refine gX1_31 X hJ (k := k) (w := upd w (20 + 7 * i + 4) ((w (20 + 7 * i + 4)) - (if (w (20 + 7 * i + 4)) < x then (w (20 + 7 * i + 4)) else x))) (by omega) (i := c) (by omega)  upW_1 dX1_takeGift_21 ?_
  refine lv_iload_n hx hb dX1_takeGift_24 rfl (lv_at hl 0 rfl) ?_
  refine lv_iadd hx hb dX1_takeGift_25 ?_
  refine pX1_31 X hJ (k := k) (by omega) (i := c) (by omega) dX1_takeGift_26 (fun H locs hJ => ?_)
  refine lv_aload_n hx hb dX1_takeGift_29 rfl (lv_at hl 1 rfl) ?_
  refine lv_dup hx hb dX1_takeGift_30 rfl ?_
  refine gX1_43 X hJ (k := k) (w := upd (upd w (20 + 7 * i + 4) ((w (20 + 7 * i + 4)) - (if (w (20 + 7 * i + 4)) < x then (w (20 + 7 * i + 4)) else x))) (104 + 8 * c + 1) (((upd w (20 + 7 * i + 4) ((w (20 + 7 * i + 4)) - (if (w (20 + 7 * i + 4)) < x then (w (20 + 7 * i + 4)) else x))) (104 + 8 * c + 1)) + (if (w (20 + 7 * i + 4)) < x then (w (20 + 7 * i + 4)) else x))) (by omega) (i := c) (by omega)  upW_1 dX1_takeGift_31 ?_
  refine lv_iload_n hx hb dX1_takeGift_34 rfl (lv_at hl 0 rfl) ?_
  refine lv_iadd hx hb dX1_takeGift_35 ?_
  refine pX1_43 X hJ (k := k) (by omega) (i := c) (by omega) dX1_takeGift_36 (fun H locs hJ => ?_)
  have hs : sX1_takeGift w c x i = upd (upd (upd w (20 + 7 * i + 4) ((w (20 + 7 * i + 4)) - (if (w (20 + 7 * i + 4)) < x then (w (20 + 7 * i + 4)) else x))) (104 + 8 * c + 1) (((upd w (20 + 7 * i + 4) ((w (20 + 7 * i + 4)) - (if (w (20 + 7 * i + 4)) < x then (w (20 + 7 * i + 4)) else x))) (104 + 8 * c + 1)) + (if (w (20 + 7 * i + 4)) < x then (w (20 + 7 * i + 4)) else x))) (104 + 8 * c + 7) (((upd (upd w (20 + 7 * i + 4) ((w (20 + 7 * i + 4)) - (if (w (20 + 7 * i + 4)) < x then (w (20 + 7 * i + 4)) else x))) (104 + 8 * c + 1) (((upd w (20 + 7 * i + 4) ((w (20 + 7 * i + 4)) - (if (w (20 + 7 * i + 4)) < x then (w (20 + 7 * i + 4)) else x))) (104 + 8 * c + 1)) + (if (w (20 + 7 * i + 4)) < x then (w (20 + 7 * i + 4)) else x))) (104 + 8 * c + 7)) + (if (w (20 + 7 * i + 4)) < x then (w (20 + 7 * i + 4)) else x)) := by unfold sX1_takeGift; rfl
  exact fin (by rw [hs]; exact hJ) dX1_takeGift_39

theorem Cn_forget {w : Row} {c i : Nat} (hc : c < 8) (hi : i < 12) (h : Cn w) : Cn (sX1_forget w c i) := by
  unfold sX1_forget; exact Cn_upd (by omega) (by omega) (by omega) (Cn_upd (by omega) (by omega) (by omega) h)
theorem Cn_halve {w : Row} {c i : Nat} (hc : c < 8) (hi : i < 12) (h : Cn w) : Cn (sX1_halve w c i) := by
  unfold sX1_halve; split <;> exact Cn_upd (by omega) (by omega) (by omega) h
theorem Cn_pay {w : Row} {c i : Nat} {x : Int32} (hc : c < 8) (hi : i < 12) (h : Cn w) : Cn (sX1_pay w c x i) := by
  unfold sX1_pay; exact Cn_upd (by omega) (by omega) (by omega) (Cn_upd (by omega) (by omega) (by omega) (Cn_upd (by omega) (by omega) (by omega) h))
theorem Cn_takeGift {w : Row} {c i : Nat} {x : Int32} (hc : c < 8) (hi : i < 12) (h : Cn w) : Cn (sX1_takeGift w c x i) := by
  unfold sX1_takeGift; exact Cn_upd (by omega) (by omega) (by omega) (Cn_upd (by omega) (by omega) (by omega) (Cn_upd (by omega) (by omega) (by omega) h))
theorem Cn_takeRiddle {w : Row} {i : Nat} {x : Int32} (hi : i < 12) (h : Cn w) : Cn (sX0_takeRiddle w i x) := by
  unfold sX0_takeRiddle; split <;> exact Cn_upd (by omega) (by omega) (by omega) h
