/-- places of a row of the reference that its memory's safety rests on -/
def bad (j : Nat) : Prop := j = 5 ∨ j = 6 ∨ j = 10 ∨ (12 ≤ j ∧ j < 20) ∨ (20 ≤ j ∧ j < 104 ∧ (j - 20) % 7 < 3)
def Rn (w : Row) : Prop := Cn w ∧ (∀ k, k < 8 → sm (w (12 + k)) 7) ∧ (∀ i, i < 12 → sm (w (20 + 7 * i)) 7 ∧ sm (w (20 + 7 * i + 1)) 7 ∧ sm (w (20 + 7 * i + 2)) 1000) ∧ ∀ i, i < 12 → i < nn (w 5) → 2 ≤ (w (20 + 7 * i + 2)).toInt
theorem updn {w : Row} {i j : Nat} {v : Int32} (h : ¬ i = j) : upd w j v i = w i := if_neg h
theorem upde {w : Row} {j : Nat} {v : Int32} : upd w j v j = v := if_pos rfl
theorem Rn_upd {w : Row} {j : Nat} {v : Int32} (hb : ¬ bad j) (h : Rn w) : Rn (upd w j v) := by
  unfold bad at hb
  refine ⟨Cn_upd (by omega) (by omega) (by omega) h.1, fun k hk => ?_, fun i hi => ?_, fun i hi hn => ?_⟩
  · rw [updn (by omega)]; exact h.2.1 k hk
  · rw [updn (by omega), updn (by omega), updn (by omega)]; exact h.2.2.1 i hi
  · rw [updn (by omega)] at hn ⊢; exact h.2.2.2 i hi hn
theorem Rn_q {w : Row} {z : Nat} {v : Int32} (hz : z < 8) (hv : sm v 7) (h : Rn w) : Rn (upd w (12 + z) v) := by
  refine ⟨Cn_upd (by omega) (by omega) (by omega) h.1, fun k hk => ?_, fun i hi => ?_, fun i hi hn => ?_⟩
  · by_cases e : k = z
    · subst e; rw [upde]; exact hv
    · rw [updn (by omega)]; exact h.2.1 k hk
  · rw [updn (by omega), updn (by omega), updn (by omega)]; exact h.2.2.1 i hi
  · rw [updn (by omega)] at hn ⊢; exact h.2.2.2 i hi hn
theorem Rn_10 {w : Row} {v : Int32} (hv : sm v 8) (h : Rn w) : Rn (upd w 10 v) := by
  refine ⟨⟨by rw [upde]; exact hv, by rw [updn (by omega)]; exact h.1.2.1, by rw [updn (by omega)]; exact h.1.2.2⟩, fun k hk => ?_, fun i hi => ?_, fun i hi hn => ?_⟩
  · rw [updn (by omega)]; exact h.2.1 k hk
  · rw [updn (by omega), updn (by omega), updn (by omega)]; exact h.2.2.1 i hi
  · rw [updn (by omega)] at hn ⊢; exact h.2.2.2 i hi hn
def Nz (i : Nat) (w : Row) : Prop := ¬ w (20 + 7 * i + 2) = 0
theorem Nz_upd {i : Nat} {w : Row} {j : Nat} {v : Int32} (hj : ¬ 20 + 7 * i + 2 = j) (h : Nz i w) : Nz i (upd w j v) := by
  unfold Nz
  rw [updn hj]; exact h
theorem Nz_of {i : Nat} {w : Row} (h : Rn w) (hi : i < 12) (hn : i < nn (w 5)) : Nz i w := fun q => by
  have := h.2.2.2 i hi hn
  rw [q] at this
  exact absurd this (by decide)
def sX7_in (x : Int64) (y : Int64) (z : Int64) : Int32 := if lg_cmp x y < 0 then (0) else (if 0 < lg_cmp x z then (0) else (1))
set_option maxHeartbeats 4000000 in
set_option maxRecDepth 100000 in
theorem mX7_in (l : Launch) (E : EE) (B : Nat) (g : GS) (x : Int64) (y : Int64) (z : Int64) : CG l yX7_in cX7_in 6 (some .boolean) 0 0 E B [.long x, .long y, .long z] g (some (.int (sX7_in x y z))) g := by
  refine mkI (own := RX7) (ty := .boolean) rfl (by decide) rfl (by unfold sX7_in; (repeat' split) <;> rfl) (Nat.le_of_ble_eq_true rfl) (fun P_ e_ s_ m_ a_ below meth cd Q X fin ls hl hJ => ?_)
  have hx := X.1
  have hb := X.2.1
  have hl : lv_has ls 6 [(0, .long x), (2, .long y), (4, .long z)] := hl
  refine lv_lload_n hx hb dX7_in_0 rfl (lv_at hl 0 rfl) ?_
  refine lv_lload_n hx hb dX7_in_1 rfl (lv_at hl 1 rfl) ?_
  refine W.lcmp hx hb dX7_in_2 ?_
  refine lv_if_lt (tgt := 17) hx hb dX7_in_3 (by decide) (fun c_3 => ?_) (fun c_3 => ?_)
  · skip
    refine lv_iconst (v := 0) hx hb dX7_in_17 (by decide) ?_
    have hs : sX7_in x y z = 0 := by unfold sX7_in; rw [if_pos c_3]
    exact fin hJ (by rw [hs]) dX7_in_18
  · skip
    refine lv_lload_n hx hb dX7_in_6 rfl (lv_at hl 0 rfl) ?_
    refine lv_lload hx hb dX7_in_7 (lv_at hl 2 rfl) ?_
    refine W.lcmp hx hb dX7_in_9 ?_
    refine lv_if_gt (tgt := 17) hx hb dX7_in_10 (by decide) (fun c_10 => ?_) (fun c_10 => ?_)
    · skip
      refine lv_iconst (v := 0) hx hb dX7_in_17 (by decide) ?_
      have hs : sX7_in x y z = 0 := by unfold sX7_in; rw [if_neg c_3, if_pos c_10]
      exact fin hJ (by rw [hs]) dX7_in_18
    · skip
      refine lv_iconst (v := 1) hx hb dX7_in_13 (by decide) ?_
      refine lv_goto (tgt := 18) hx hb dX7_in_14 (by decide) ?_
      have hs : sX7_in x y z = 1 := by unfold sX7_in; rw [if_neg c_3, if_neg c_10]
      exact fin hJ (by rw [hs]) dX7_in_18

def sX7_size (x : Int32) : Int32 := if 0 ≤ x then (x) else (-x)
set_option maxHeartbeats 4000000 in
set_option maxRecDepth 100000 in
theorem mX7_size (l : Launch) (E : EE) (B : Nat) (g : GS) (x : Int32) : CG l yX7_size cX7_size 1 (some .int) 0 0 E B [.int x] g (some (.int (sX7_size x))) g := by
  refine mkI (own := RX7) (ty := .int) rfl (by decide) rfl (rfl) (Nat.le_of_ble_eq_true rfl) (fun P_ e_ s_ m_ a_ below meth cd Q X fin ls hl hJ => ?_)
  have hx := X.1
  have hb := X.2.1
  have hl : lv_has ls 1 [(0, .int x)] := hl
  refine lv_iload_n hx hb dX7_size_0 rfl (lv_at hl 0 rfl) ?_
  refine lv_if_ge (tgt := 9) hx hb dX7_size_1 (by decide) (fun c_1 => ?_) (fun c_1 => ?_)
  · skip
    refine lv_iload_n hx hb dX7_size_9 rfl (lv_at hl 0 rfl) ?_
    have hs : sX7_size x = x := by unfold sX7_size; rw [if_pos c_1]
    exact fin hJ (by rw [hs]) dX7_size_10
  · skip
    refine lv_iload_n hx hb dX7_size_4 rfl (lv_at hl 0 rfl) ?_
    refine lv_ineg hx hb dX7_size_5 ?_
    refine lv_goto (tgt := 10) hx hb dX7_size_6 (by decide) ?_
    have hs : sX7_size x = -x := by unfold sX7_size; rw [if_neg c_1]
    exact fin hJ (by rw [hs]) dX7_size_10

def sX7_isTown (x : Int32) : Int32 := sX7_in x.toInt64 0 7
set_option maxHeartbeats 4000000 in
set_option maxRecDepth 100000 in
theorem mX7_isTown (l : Launch) (E : EE) (B : Nat) (g : GS) (x : Int32) : CG l yX7_isTown cX7_isTown 1 (some .boolean) 1 25 E B [.int x] g (some (.int (sX7_isTown x))) g := by
  refine mkI (own := RX7) (ty := .boolean) rfl (by decide) rfl (by unfold sX7_isTown sX7_in; (repeat' split) <;> rfl) (Nat.le_of_ble_eq_true rfl) (fun P_ e_ s_ m_ a_ below meth cd Q X fin ls hl hJ => ?_)
  have hx := X.1
  have hb := X.2.1
  have hl : lv_has ls 1 [(0, .int x)] := hl
  refine lv_iload_n hx hb dX7_isTown_0 rfl (lv_at hl 0 rfl) ?_
  refine lv_i2l hx hb dX7_isTown_1 rfl ?_
  refine lv_lconst (v := 0) hx hb dX7_isTown_2 (by decide) ?_
  refine lv_ldc2 (own := RX7) hx hb X.2.2.2.1 (X.2.2.2.2.1 (.constantLong RX7 79 7) (tw (i := 804) (by decide +kernel) (by decide))) dX7_isTown_3 ?_
  refine kX7_81 X hJ (mX7_in l E B _ x.toInt64 0 7) rfl hl.1 ⟨Nat.le_of_ble_eq_true rfl, Nat.le_of_ble_eq_true rfl⟩ ⟨Nat.le_refl _, Nat.le_refl _⟩ (rest := []) rfl (Nat.le_of_ble_eq_true rfl) dX7_isTown_6 (fun H locs hJ => ?_)
  have hs : sX7_isTown x = sX7_in x.toInt64 0 7 := by unfold sX7_isTown; rfl
  exact fin hJ (by rw [hs]) dX7_isTown_9

def sX7_isSlot (x : Int32) : Int32 := if x = 0 then (1) else (if x = 1 then (1) else (0))
set_option maxHeartbeats 4000000 in
set_option maxRecDepth 100000 in
theorem mX7_isSlot (l : Launch) (E : EE) (B : Nat) (g : GS) (x : Int32) : CG l yX7_isSlot cX7_isSlot 1 (some .boolean) 0 0 E B [.int x] g (some (.int (sX7_isSlot x))) g := by
  refine mkI (own := RX7) (ty := .boolean) rfl (by decide) rfl (by unfold sX7_isSlot; (repeat' split) <;> rfl) (Nat.le_of_ble_eq_true rfl) (fun P_ e_ s_ m_ a_ below meth cd Q X fin ls hl hJ => ?_)
  have hx := X.1
  have hb := X.2.1
  have hl : lv_has ls 1 [(0, .int x)] := hl
  refine lv_iload_n hx hb dX7_isSlot_0 rfl (lv_at hl 0 rfl) ?_
  refine lv_if_eq (tgt := 9) hx hb dX7_isSlot_1 (by decide) (fun c_1 => ?_) (fun c_1 => ?_)
  · skip
    refine lv_iconst (v := 1) hx hb dX7_isSlot_9 (by decide) ?_
    refine lv_goto (tgt := 14) hx hb dX7_isSlot_10 (by decide) ?_
    have hs : sX7_isSlot x = 1 := by unfold sX7_isSlot; rw [if_pos c_1]
    exact fin hJ (by rw [hs]) dX7_isSlot_14
  · skip
    refine lv_iload_n hx hb dX7_isSlot_4 rfl (lv_at hl 0 rfl) ?_
    refine lv_iconst (v := 1) hx hb dX7_isSlot_5 (by decide) ?_
    refine lv_icmp_ne (tgt := 13) hx hb dX7_isSlot_6 (by decide) (fun c_6 => ?_) (fun c_6 => ?_)
    · skip
      refine lv_iconst (v := 0) hx hb dX7_isSlot_13 (by decide) ?_
      have hs : sX7_isSlot x = 0 := by unfold sX7_isSlot; rw [if_neg c_1, if_neg c_6]
      exact fin hJ (by rw [hs]) dX7_isSlot_14
    · skip
      refine lv_iconst (v := 1) hx hb dX7_isSlot_9 (by decide) ?_
      refine lv_goto (tgt := 14) hx hb dX7_isSlot_10 (by decide) ?_
      have hs : sX7_isSlot x = 1 := by unfold sX7_isSlot; rw [if_neg c_1, if_pos c_6]
      exact fin hJ (by rw [hs]) dX7_isSlot_14

def sX7_isValue (x : Int32) (y : Int32) : Int32 := if x = 0 then (sX7_in y.toInt64 0 50) else if x = 1 then (sX7_in y.toInt64 0 20) else if x = 2 then (sX7_in y.toInt64 0 50) else if x = 3 then (sX7_in y.toInt64 1 20) else (0)
set_option maxHeartbeats 4000000 in
set_option maxRecDepth 100000 in
theorem mX7_isValue (l : Launch) (E : EE) (B : Nat) (g : GS) (x : Int32) (y : Int32) : CG l yX7_isValue cX7_isValue 2 (some .boolean) 1 25 E B [.int x, .int y] g (some (.int (sX7_isValue x y))) g := by
  refine mkI (own := RX7) (ty := .boolean) rfl (by decide) rfl (by unfold sX7_isValue sX7_in; (repeat' split) <;> rfl) (Nat.le_of_ble_eq_true rfl) (fun P_ e_ s_ m_ a_ below meth cd Q X fin ls hl hJ => ?_)
  have hx := X.1
  have hb := X.2.1
  have hl : lv_has ls 2 [(0, .int x), (1, .int y)] := hl
  refine lv_iload_n hx hb dX7_isValue_0 rfl (lv_at hl 0 rfl) ?_
  by_cases c_1_0 : x = 0
  · rw [c_1_0]
    refine lv_tableIn (tgt := 32) hx hb dX7_isValue_1 (by decide) (by decide) (off := 31) (by decide) (by decide) ?_
    refine lv_iload_n hx hb dX7_isValue_32 rfl (lv_at hl 1 rfl) ?_
    refine lv_i2l hx hb dX7_isValue_33 rfl ?_
    refine lv_lconst (v := 0) hx hb dX7_isValue_34 (by decide) ?_
    refine lv_ldc2 (own := RX7) hx hb X.2.2.2.1 (X.2.2.2.2.1 (.constantLong RX7 110 50) (tw (i := 780) (by decide +kernel) (by decide))) dX7_isValue_35 ?_
    refine kX7_81 X hJ (mX7_in l E B _ y.toInt64 0 50) rfl hl.1 ⟨Nat.le_of_ble_eq_true rfl, Nat.le_of_ble_eq_true rfl⟩ ⟨Nat.le_refl _, Nat.le_refl _⟩ (rest := []) rfl (Nat.le_of_ble_eq_true rfl) dX7_isValue_38 (fun H locs hJ => ?_)
    have hs : sX7_isValue x y = sX7_in y.toInt64 0 50 := by unfold sX7_isValue; rw [if_pos c_1_0]
    exact fin hJ (by rw [hs]) dX7_isValue_41
  by_cases c_1_1 : x = 1
  · rw [c_1_1]
    refine lv_tableIn (tgt := 42) hx hb dX7_isValue_1 (by decide) (by decide) (off := 41) (by decide) (by decide) ?_
    refine lv_iload_n hx hb dX7_isValue_42 rfl (lv_at hl 1 rfl) ?_
    refine lv_i2l hx hb dX7_isValue_43 rfl ?_
    refine lv_lconst (v := 0) hx hb dX7_isValue_44 (by decide) ?_
    refine lv_ldc2 (own := RX7) hx hb X.2.2.2.1 (X.2.2.2.2.1 (.constantLong RX7 112 20) (tw (i := 784) (by decide +kernel) (by decide))) dX7_isValue_45 ?_
    refine kX7_81 X hJ (mX7_in l E B _ y.toInt64 0 20) rfl hl.1 ⟨Nat.le_of_ble_eq_true rfl, Nat.le_of_ble_eq_true rfl⟩ ⟨Nat.le_refl _, Nat.le_refl _⟩ (rest := []) rfl (Nat.le_of_ble_eq_true rfl) dX7_isValue_48 (fun H locs hJ => ?_)
    have hs : sX7_isValue x y = sX7_in y.toInt64 0 20 := by unfold sX7_isValue; rw [if_neg c_1_0, if_pos c_1_1]
    exact fin hJ (by rw [hs]) dX7_isValue_51
  by_cases c_1_2 : x = 2
  · rw [c_1_2]
    refine lv_tableIn (tgt := 32) hx hb dX7_isValue_1 (by decide) (by decide) (off := 31) (by decide) (by decide) ?_
    refine lv_iload_n hx hb dX7_isValue_32 rfl (lv_at hl 1 rfl) ?_
    refine lv_i2l hx hb dX7_isValue_33 rfl ?_
    refine lv_lconst (v := 0) hx hb dX7_isValue_34 (by decide) ?_
    refine lv_ldc2 (own := RX7) hx hb X.2.2.2.1 (X.2.2.2.2.1 (.constantLong RX7 110 50) (tw (i := 780) (by decide +kernel) (by decide))) dX7_isValue_35 ?_
    refine kX7_81 X hJ (mX7_in l E B _ y.toInt64 0 50) rfl hl.1 ⟨Nat.le_of_ble_eq_true rfl, Nat.le_of_ble_eq_true rfl⟩ ⟨Nat.le_refl _, Nat.le_refl _⟩ (rest := []) rfl (Nat.le_of_ble_eq_true rfl) dX7_isValue_38 (fun H locs hJ => ?_)
    have hs : sX7_isValue x y = sX7_in y.toInt64 0 50 := by unfold sX7_isValue; rw [if_neg c_1_0, if_neg c_1_1, if_pos c_1_2]
    exact fin hJ (by rw [hs]) dX7_isValue_41
  by_cases c_1_3 : x = 3
  · rw [c_1_3]
    refine lv_tableIn (tgt := 52) hx hb dX7_isValue_1 (by decide) (by decide) (off := 51) (by decide) (by decide) ?_
    refine lv_iload_n hx hb dX7_isValue_52 rfl (lv_at hl 1 rfl) ?_
    refine lv_i2l hx hb dX7_isValue_53 rfl ?_
    refine lv_lconst (v := 1) hx hb dX7_isValue_54 (by decide) ?_
    refine lv_ldc2 (own := RX7) hx hb X.2.2.2.1 (X.2.2.2.2.1 (.constantLong RX7 112 20) (tw (i := 784) (by decide +kernel) (by decide))) dX7_isValue_55 ?_
    refine kX7_81 X hJ (mX7_in l E B _ y.toInt64 1 20) rfl hl.1 ⟨Nat.le_of_ble_eq_true rfl, Nat.le_of_ble_eq_true rfl⟩ ⟨Nat.le_refl _, Nat.le_refl _⟩ (rest := []) rfl (Nat.le_of_ble_eq_true rfl) dX7_isValue_58 (fun H locs hJ => ?_)
    have hs : sX7_isValue x y = sX7_in y.toInt64 1 20 := by unfold sX7_isValue; rw [if_neg c_1_0, if_neg c_1_1, if_neg c_1_2, if_pos c_1_3]
    exact fin hJ (by rw [hs]) dX7_isValue_61
  refine rtabOut (tgt := 62) hx hb dX7_isValue_1 (by decide) (fun h1 h2 => ?_) ?_
  · exfalso; have e0 := ne_toInt (n := 0) c_1_0 (by decide); have e1 := ne_toInt (n := 1) c_1_1 (by decide); have e2 := ne_toInt (n := 2) c_1_2 (by decide); have e3 := ne_toInt (n := 3) c_1_3 (by decide); omega
  refine lv_iconst (v := 0) hx hb dX7_isValue_62 (by decide) ?_
  have hs : sX7_isValue x y = 0 := by unfold sX7_isValue; rw [if_neg c_1_0, if_neg c_1_1, if_neg c_1_2, if_neg c_1_3]
  exact fin hJ (by rw [hs]) dX7_isValue_63

def sX7_bridgeAt (t i : Nat) : Int32 := nI (360 * t + (20 + 7 * i))
set_option maxHeartbeats 4000000 in
set_option maxRecDepth 100000 in
theorem mX7_bridgeAt (l : Launch) (E : EE) (B : Nat) (g : GS) (t i : Nat) : CG l yX7_bridgeAt cX7_bridgeAt 2 (some .int) 0 0 E B [.int (nI (360 * t)), .int (nI i)] g (some (.int (sX7_bridgeAt t i))) g := by
  refine mkI (own := RX7) (ty := .int) rfl (by decide) rfl (rfl) (Nat.le_of_ble_eq_true rfl) (fun P_ e_ s_ m_ a_ below meth cd Q X fin ls hl hJ => ?_)
  have hx := X.1
  have hb := X.2.1
  have hl : lv_has ls 2 [(0, .int (nI (360 * t))), (1, .int (nI i))] := hl
  refine lv_iload_n hx hb dX7_bridgeAt_0 rfl (lv_at hl 0 rfl) ?_
  refine lv_bipush (v := 20) hx hb dX7_bridgeAt_1 (by decide) ?_
  refine xiadd (z := nI (360 * t + (20))) hx hb dX7_bridgeAt_3 (nI_add (360 * t) 20) ?_
  refine lv_bipush (v := 7) hx hb dX7_bridgeAt_4 (by decide) ?_
  refine lv_iload_n hx hb dX7_bridgeAt_6 rfl (lv_at hl 1 rfl) ?_
  refine ximul (z := nI (7 * i)) hx hb dX7_bridgeAt_7 (nI_mul 7 i) ?_
  refine xiadd (z := nI (360 * t + (20 + 7 * i))) hx hb dX7_bridgeAt_8 (nI_a3 t 20 (7 * i)) ?_
  have hs : sX7_bridgeAt t i = nI (360 * t + (20 + 7 * i)) := by unfold sX7_bridgeAt; rfl
  exact fin hJ (by rw [hs]) dX7_bridgeAt_9
theorem qX7_bridgeAt (l : Launch) (E : EE) (B : Nat) (g : GS) (t i : Nat) : CG l yX7_bridgeAt cX7_bridgeAt 2 (some .int) 0 0 E B [.int (nI (360 * t)), .int (nI i)] g (some (.int (nI (360 * t + (20 + 7 * i))))) g := mX7_bridgeAt l E B g t i

def sX7_cartAt (t c : Nat) : Int32 := nI (360 * t + (104 + 8 * c))
set_option maxHeartbeats 4000000 in
set_option maxRecDepth 100000 in
theorem mX7_cartAt (l : Launch) (E : EE) (B : Nat) (g : GS) (t c : Nat) : CG l yX7_cartAt cX7_cartAt 2 (some .int) 0 0 E B [.int (nI (360 * t)), .int (nI c)] g (some (.int (sX7_cartAt t c))) g := by
  refine mkI (own := RX7) (ty := .int) rfl (by decide) rfl (rfl) (Nat.le_of_ble_eq_true rfl) (fun P_ e_ s_ m_ a_ below meth cd Q X fin ls hl hJ => ?_)
  have hx := X.1
  have hb := X.2.1
  have hl : lv_has ls 2 [(0, .int (nI (360 * t))), (1, .int (nI c))] := hl
  refine lv_iload_n hx hb dX7_cartAt_0 rfl (lv_at hl 0 rfl) ?_
  refine lv_bipush (v := 104) hx hb dX7_cartAt_1 (by decide) ?_
  refine xiadd (z := nI (360 * t + (104))) hx hb dX7_cartAt_3 (nI_add (360 * t) 104) ?_
  refine lv_bipush (v := 8) hx hb dX7_cartAt_4 (by decide) ?_
  refine lv_iload_n hx hb dX7_cartAt_6 rfl (lv_at hl 1 rfl) ?_
  refine ximul (z := nI (8 * c)) hx hb dX7_cartAt_7 (nI_mul 8 c) ?_
  refine xiadd (z := nI (360 * t + (104 + 8 * c))) hx hb dX7_cartAt_8 (nI_a3 t 104 (8 * c)) ?_
  have hs : sX7_cartAt t c = nI (360 * t + (104 + 8 * c)) := by unfold sX7_cartAt; rfl
  exact fin hJ (by rw [hs]) dX7_cartAt_9
theorem qX7_cartAt (l : Launch) (E : EE) (B : Nat) (g : GS) (t c : Nat) : CG l yX7_cartAt cX7_cartAt 2 (some .int) 0 0 E B [.int (nI (360 * t)), .int (nI c)] g (some (.int (nI (360 * t + (104 + 8 * c))))) g := mX7_cartAt l E B g t c

def sX7_rangeAt (t c i : Nat) : Int32 := nI (360 * t + (168 + (2 * (12 * c + i))))
set_option maxHeartbeats 4000000 in
set_option maxRecDepth 100000 in
theorem mX7_rangeAt (l : Launch) (E : EE) (B : Nat) (g : GS) (t c i : Nat) : CG l yX7_rangeAt cX7_rangeAt 3 (some .int) 0 0 E B [.int (nI (360 * t)), .int (nI c), .int (nI i)] g (some (.int (sX7_rangeAt t c i))) g := by
  refine mkI (own := RX7) (ty := .int) rfl (by decide) rfl (rfl) (Nat.le_of_ble_eq_true rfl) (fun P_ e_ s_ m_ a_ below meth cd Q X fin ls hl hJ => ?_)
  have hx := X.1
  have hb := X.2.1
  have hl : lv_has ls 3 [(0, .int (nI (360 * t))), (1, .int (nI c)), (2, .int (nI i))] := hl
  refine lv_iload_n hx hb dX7_rangeAt_0 rfl (lv_at hl 0 rfl) ?_
  refine lv_sipush (v := 168) hx hb dX7_rangeAt_1 (by decide) ?_
  refine xiadd (z := nI (360 * t + (168))) hx hb dX7_rangeAt_4 (nI_add (360 * t) 168) ?_
  refine lv_iconst (v := 2) hx hb dX7_rangeAt_5 (by decide) ?_
  refine lv_bipush (v := 12) hx hb dX7_rangeAt_6 (by decide) ?_
  refine lv_iload_n hx hb dX7_rangeAt_8 rfl (lv_at hl 1 rfl) ?_
  refine ximul (z := nI (12 * c)) hx hb dX7_rangeAt_9 (nI_mul 12 c) ?_
  refine lv_iload_n hx hb dX7_rangeAt_10 rfl (lv_at hl 2 rfl) ?_
  refine xiadd (z := nI (12 * c + i)) hx hb dX7_rangeAt_11 (nI_add (12 * c) i) ?_
  refine ximul (z := nI (2 * (12 * c + i))) hx hb dX7_rangeAt_12 (nI_mul 2 (12 * c + i)) ?_
  refine xiadd (z := nI (360 * t + (168 + (2 * (12 * c + i))))) hx hb dX7_rangeAt_13 (nI_a3 t 168 (2 * (12 * c + i))) ?_
  have hs : sX7_rangeAt t c i = nI (360 * t + (168 + (2 * (12 * c + i)))) := by unfold sX7_rangeAt; rfl
  exact fin hJ (by rw [hs]) dX7_rangeAt_14
theorem qX7_rangeAt (l : Launch) (E : EE) (B : Nat) (g : GS) (t c i : Nat) : CG l yX7_rangeAt cX7_rangeAt 3 (some .int) 0 0 E B [.int (nI (360 * t)), .int (nI c), .int (nI i)] g (some (.int (nI (360 * t + (168 + 2 * (12 * c + i)))))) g := mX7_rangeAt l E B g t c i

def sX7_isAt (w : Row) (i : Nat) (x : Int32) : Int32 := if w (20 + 7 * i) = x then (1) else (if w (20 + 7 * i + 1) = x then (1) else (0))
set_option maxHeartbeats 4000000 in
set_option maxRecDepth 100000 in
theorem mX7_isAt (l : Launch) (E : EE) (B : Nat) (g : GS) (t : Nat) (i : Nat) (x : Int32) (w : Row) (ht : t < 10) (hi : i < 12) (hw : g.2.2.1 t = w) : CG l yX7_isAt cX7_isAt 4 (some .boolean) 1 21 E B [.ref (B + 459), .int (nI (360 * t)), .int (nI i), .int x] g (some (.int (sX7_isAt w i x))) g := by
  refine mkI (own := RX7) (ty := .boolean) rfl (by decide) rfl (by unfold sX7_isAt; (repeat' split) <;> rfl) (Nat.le_of_ble_eq_true rfl) (fun P_ e_ s_ m_ a_ below meth cd Q X fin ls hl hJ => ?_)
  have hx := X.1
  have hb := X.2.1
  have hl : lv_has ls 4 [(0, .ref (B + 459)), (1, .int (nI (360 * t))), (2, .int (nI i)), (3, .int x)] := hl
  refine lv_aload_n hx hb dX7_isAt_0 rfl (lv_at hl 0 rfl) ?_
  refine gX7_7 X hJ (w := g.2.2.2) rfl dX7_isAt_1 ?_
  refine lv_iload_n hx hb dX7_isAt_4 rfl (lv_at hl 1 rfl) ?_
  refine lv_iload_n hx hb dX7_isAt_5 rfl (lv_at hl 2 rfl) ?_
  refine kX7_31 X hJ (qX7_bridgeAt l E B _ t i) rfl hl.1 ⟨Nat.le_of_ble_eq_true rfl, Nat.le_of_ble_eq_true rfl⟩ ⟨Nat.le_refl _, Nat.le_refl _⟩ (rest := [.ref (B + 460)]) rfl (Nat.le_of_ble_eq_true rfl) dX7_isAt_6 (fun H locs hJ => ?_)
  refine ld_s X hJ (t := t) (w := w) (by omega) hw (j := 20 + 7 * i) (rfl) (by omega) dX7_isAt_9 ?_
  refine lv_iload_n hx hb dX7_isAt_10 rfl (lv_at hl 3 rfl) ?_
  refine lv_icmp_eq (tgt := 30) hx hb dX7_isAt_11 (by decide) (fun c_11 => ?_) (fun c_11 => ?_)
  · skip
    refine lv_iconst (v := 1) hx hb dX7_isAt_30 (by decide) ?_
    refine lv_goto (tgt := 35) hx hb dX7_isAt_31 (by decide) ?_
    have hs : sX7_isAt w i x = 1 := by unfold sX7_isAt; rw [if_pos c_11]
    exact fin hJ (by rw [hs]) dX7_isAt_35
  · skip
    refine lv_aload_n hx hb dX7_isAt_14 rfl (lv_at hl 0 rfl) ?_
    refine gX7_7 X hJ (w := g.2.2.2) rfl dX7_isAt_15 ?_
    refine lv_iload_n hx hb dX7_isAt_18 rfl (lv_at hl 1 rfl) ?_
    refine lv_iload_n hx hb dX7_isAt_19 rfl (lv_at hl 2 rfl) ?_
    refine kX7_31 X hJ (qX7_bridgeAt l E B _ t i) rfl hl.1 ⟨Nat.le_of_ble_eq_true rfl, Nat.le_of_ble_eq_true rfl⟩ ⟨Nat.le_refl _, Nat.le_refl _⟩ (rest := [.ref (B + 460)]) rfl (Nat.le_of_ble_eq_true rfl) dX7_isAt_20 (fun H locs hJ => ?_)
    refine lv_iconst (v := 1) hx hb dX7_isAt_23 (by decide) ?_
    refine xiadd (z := nI (360 * t + (20 + 7 * i + 1))) hx hb dX7_isAt_24 (nI_a3 t (20 + 7 * i) 1) ?_
    refine ld_s X hJ (t := t) (w := w) (by omega) hw (j := 20 + 7 * i + 1) (rfl) (by omega) dX7_isAt_25 ?_
    refine lv_iload_n hx hb dX7_isAt_26 rfl (lv_at hl 3 rfl) ?_
    refine lv_icmp_ne (tgt := 34) hx hb dX7_isAt_27 (by decide) (fun c_27 => ?_) (fun c_27 => ?_)
    · skip
      refine lv_iconst (v := 0) hx hb dX7_isAt_34 (by decide) ?_
      have hs : sX7_isAt w i x = 0 := by unfold sX7_isAt; rw [if_neg c_11, if_neg c_27]
      exact fin hJ (by rw [hs]) dX7_isAt_35
    · skip
      refine lv_iconst (v := 1) hx hb dX7_isAt_30 (by decide) ?_
      refine lv_goto (tgt := 35) hx hb dX7_isAt_31 (by decide) ?_
      have hs : sX7_isAt w i x = 1 := by unfold sX7_isAt; rw [if_neg c_11, if_pos c_27]
      exact fin hJ (by rw [hs]) dX7_isAt_35

def bX7_draws_64  (i : Nat) : Nat → Row → Nat → Row
  | 0, w64, _ => w64
  | n + 1, w64, p => if 8 ≤ nI p then (w64) else (bX7_draws_64 i n (upd (upd w64 (168 + 2 * (12 * p + i)) 0) (168 + 2 * (12 * p + i) + 1) (((upd w64 (168 + 2 * (12 * p + i)) 0) (20 + 7 * i + 2)) - 1)) (p + 1))
def sX7_draws (w : Row) (i : Nat) : Row := bX7_draws_64 i 9 (upd (upd w (7) (((75 * (w (7))) + 74) - ((75 * (w (7))) + 74) / 65537 * 65537)) (20 + 7 * i + 3) ((((upd w (7) (((75 * (w (7))) + 74) - ((75 * (w (7))) + 74) / 65537 * 65537)) (7)) / 2) - (((upd w (7) (((75 * (w (7))) + 74) - ((75 * (w (7))) + 74) / 65537 * 65537)) (7)) / 2) / ((upd w (7) (((75 * (w (7))) + 74) - ((75 * (w (7))) + 74) / 65537 * 65537)) (20 + 7 * i + 2)) * ((upd w (7) (((75 * (w (7))) + 74) - ((75 * (w (7))) + 74) / 65537 * 65537)) (20 + 7 * i + 2)))) 0
set_option maxHeartbeats 4000000 in
set_option maxRecDepth 100000 in
theorem mX7_draws (l : Launch) (E : EE) (B : Nat) (g : GS) (t : Nat) (i : Nat) (w : Row) (ht : t < 10) (hi : i < 12) (hnz : Nz i w) : CG l yX7_draws cX7_draws 5 none 1 22 E B [.ref (B + 459), .int (nI (360 * t)), .int (nI i)] (upS g t w) none (upS g t (sX7_draws w i)) := by
  refine mkV (own := RX7) rfl (by decide) rfl (Nat.le_of_ble_eq_true rfl) (fun P_ e_ s_ m_ a_ below meth cd Q X _ fin ls hl hJ => ?_)
  have hx := X.1
  have hb := X.2.1
  have hl : lv_has ls 5 [(0, .ref (B + 459)), (1, .int (nI (360 * t))), (2, .int (nI i))] := hl
  have bk_64 : ∀ (n : Nat) (w64 : Row)  (p : Nat), 8 - p < n → (p ≤ 8) → ∀ (H : Heap) (locs : List Loc) (ls : Array Slot), JG E B s_ (upS g t w64) H locs → lv_has ls 5 [(0, .ref (B + 459)), (1, .int (nI (360 * t))), (2, .int (nI i)), (3, .int (nI (360 * t + (20 + 7 * i)))), (4, .int (nI p))] → sX7_draws w i = bX7_draws_64 i n w64 p → W P_ l e_ (rmm 1 22 0 0) s_ m_ a_ below meth cd H locs 0 0 Q (F0 m_ 64 ls []) := by
    intro n
    induction n with
    | zero => intro w64 p hm; exact absurd hm (Nat.not_lt_zero _)
    | succ n ih =>
      intro w64 p hm hp H locs ls hJ hl hs
      refine lv_iload hx hb dX7_draws_64 (lv_at hl 4 rfl) ?_
      refine lv_bipush (v := 8) hx hb dX7_draws_66 (by decide) ?_
      refine lv_icmp_ge (tgt := 114) hx hb dX7_draws_68 (by decide) (fun c_68 => ?_) (fun c_68 => ?_)
      · skip
        have hs : sX7_draws w i = w64 := hs.trans (by rw [bX7_draws_64, if_pos c_68])
        exact fin (by rw [hs]; exact hJ) dX7_draws_114
      · skip
        have hp2 := lit_lt (n := 8) c_68 (by omega) (by omega)
        refine lv_aload_n hx hb dX7_draws_71 rfl (lv_at hl 0 rfl) ?_
        refine gX7_7 X hJ (w := g.2.2.2) rfl dX7_draws_72 ?_
        refine lv_iload_n hx hb dX7_draws_75 rfl (lv_at hl 1 rfl) ?_
        refine lv_iload hx hb dX7_draws_76 (lv_at hl 4 rfl) ?_
        refine lv_iload_n hx hb dX7_draws_78 rfl (lv_at hl 2 rfl) ?_
        refine kX7_36 X hJ (qX7_rangeAt l E B _ t p i) rfl hl.1 ⟨Nat.le_of_ble_eq_true rfl, Nat.le_of_ble_eq_true rfl⟩ ⟨Nat.le_refl _, Nat.le_refl _⟩ (rest := [.ref (B + 460)]) rfl (Nat.le_of_ble_eq_true rfl) dX7_draws_79 (fun H locs hJ => ?_)
        refine lv_iconst (v := 0) hx hb dX7_draws_82 (by decide) ?_
        refine st_s X (t := t) hJ (by omega) (j := 168 + 2 * (12 * p + i)) (rfl) (by omega) dX7_draws_83 (fun H locs hJ => ?_)
        refine lv_aload_n hx hb dX7_draws_84 rfl (lv_at hl 0 rfl) ?_
        refine gX7_7 X hJ (w := g.2.2.2) rfl dX7_draws_85 ?_
        refine lv_iload_n hx hb dX7_draws_88 rfl (lv_at hl 1 rfl) ?_
        refine lv_iload hx hb dX7_draws_89 (lv_at hl 4 rfl) ?_
        refine lv_iload_n hx hb dX7_draws_91 rfl (lv_at hl 2 rfl) ?_
        refine kX7_36 X hJ (qX7_rangeAt l E B _ t p i) rfl hl.1 ⟨Nat.le_of_ble_eq_true rfl, Nat.le_of_ble_eq_true rfl⟩ ⟨Nat.le_refl _, Nat.le_refl _⟩ (rest := [.ref (B + 460)]) rfl (Nat.le_of_ble_eq_true rfl) dX7_draws_92 (fun H locs hJ => ?_)
        refine lv_iconst (v := 1) hx hb dX7_draws_95 (by decide) ?_
        refine xiadd (z := nI (360 * t + (168 + 2 * (12 * p + i) + 1))) hx hb dX7_draws_96 (nI_a3 t (168 + 2 * (12 * p + i)) 1) ?_
        refine lv_aload_n hx hb dX7_draws_97 rfl (lv_at hl 0 rfl) ?_
        refine gX7_7 X hJ (w := g.2.2.2) rfl dX7_draws_98 ?_
        refine lv_iload_n hx hb dX7_draws_101 rfl (lv_at hl 3 rfl) ?_
        refine lv_iconst (v := 2) hx hb dX7_draws_102 (by decide) ?_
        refine xiadd (z := nI (360 * t + (20 + 7 * i + 2))) hx hb dX7_draws_103 (nI_a3 t (20 + 7 * i) 2) ?_
        refine ld_s X hJ (t := t) (w := upd w64 (168 + 2 * (12 * p + i)) 0) (by omega) upS_1 (j := 20 + 7 * i + 2) (rfl) (by omega) dX7_draws_104 ?_
        refine lv_iconst (v := 1) hx hb dX7_draws_105 (by decide) ?_
        refine lv_isub hx hb dX7_draws_106 ?_
        refine st_s X (t := t) hJ (by omega) (j := 168 + 2 * (12 * p + i) + 1) (rfl) (by omega) dX7_draws_107 (fun H locs hJ => ?_)
        refine lv_iinc (v := nI (p + 1)) (lv' := [(4, .int (nI (p + 1))), (0, .ref (B + 459)), (1, .int (nI (360 * t))), (2, .int (nI i)), (3, .int (nI (360 * t + (20 + 7 * i))))]) hx hb dX7_draws_108 hl (k := 4) rfl (by first | exact nI_add _ _ | rfl) (by decide) rfl (fun ls hl => ?_)
        refine lv_goto (tgt := 64) hx hb dX7_draws_111 (by decide) ?_
        have hs : sX7_draws w i = bX7_draws_64 i n (upd (upd w64 (168 + 2 * (12 * p + i)) 0) (168 + 2 * (12 * p + i) + 1) (((upd w64 (168 + 2 * (12 * p + i)) 0) (20 + 7 * i + 2)) - 1)) (p + 1) := hs.trans (by rw [bX7_draws_64, if_neg c_68])
        exact ih (upd (upd w64 (168 + 2 * (12 * p + i)) 0) (168 + 2 * (12 * p + i) + 1) (((upd w64 (168 + 2 * (12 * p + i)) 0) (20 + 7 * i + 2)) - 1)) (p + 1) (by omega) (by omega) _ _ _ hJ (lv_sub hl [1, 2, 3, 4, 0] rfl) hs
  refine lv_iload_n hx hb dX7_draws_0 rfl (lv_at hl 1 rfl) ?_
  refine lv_iload_n hx hb dX7_draws_1 rfl (lv_at hl 2 rfl) ?_
  refine kX7_31 X hJ (qX7_bridgeAt l E B _ t i) rfl hl.1 ⟨Nat.le_of_ble_eq_true rfl, Nat.le_of_ble_eq_true rfl⟩ ⟨Nat.le_refl _, Nat.le_refl _⟩ (rest := []) rfl (Nat.le_of_ble_eq_true rfl) dX7_draws_2 (fun H locs hJ => ?_)
  refine lv_istore_n (lv' := [(3, .int (nI (360 * t + (20 + 7 * i)))), (0, .ref (B + 459)), (1, .int (nI (360 * t))), (2, .int (nI i))]) hx hb dX7_draws_5 rfl hl (by decide) rfl (fun ls hl => ?_)
  refine lv_aload_n hx hb dX7_draws_6 rfl (lv_at hl 1 rfl) ?_
  refine gX7_7 X hJ (w := g.2.2.2) rfl dX7_draws_7 ?_
  refine lv_iload_n hx hb dX7_draws_10 rfl (lv_at hl 2 rfl) ?_
  refine lv_bipush (v := 7) hx hb dX7_draws_11 (by decide) ?_
  refine xiadd (z := nI (360 * t + (7))) hx hb dX7_draws_13 (nI_add (360 * t) 7) ?_
  refine lv_bipush (v := 75) hx hb dX7_draws_14 (by decide) ?_
  refine lv_aload_n hx hb dX7_draws_16 rfl (lv_at hl 1 rfl) ?_
  refine gX7_7 X hJ (w := g.2.2.2) rfl dX7_draws_17 ?_
  refine lv_iload_n hx hb dX7_draws_20 rfl (lv_at hl 2 rfl) ?_
  refine lv_bipush (v := 7) hx hb dX7_draws_21 (by decide) ?_
  refine xiadd (z := nI (360 * t + (7))) hx hb dX7_draws_23 (nI_add (360 * t) 7) ?_
  refine ld_s X hJ (t := t) (w := w) (by omega) upS_1 (j := 7) (rfl) (by omega) dX7_draws_24 ?_
  refine lv_imul hx hb dX7_draws_25 ?_
  refine lv_bipush (v := 74) hx hb dX7_draws_26 (by decide) ?_
  refine lv_iadd hx hb dX7_draws_28 ?_
  refine lv_ldc (own := RX7) hx hb X.2.2.2.1 (X.2.2.2.2.1 (.constant RX7 35 65537) (tw (i := 818) (by decide +kernel) (by decide))) dX7_draws_29 ?_
  refine lv_irem hx hb dX7_draws_31 (by decide) ?_
  refine st_s X (t := t) hJ (by omega) (j := 7) (rfl) (by omega) dX7_draws_32 (fun H locs hJ => ?_)
  refine lv_aload_n hx hb dX7_draws_33 rfl (lv_at hl 1 rfl) ?_
  refine gX7_7 X hJ (w := g.2.2.2) rfl dX7_draws_34 ?_
  refine lv_iload_n hx hb dX7_draws_37 rfl (lv_at hl 0 rfl) ?_
  refine lv_iconst (v := 3) hx hb dX7_draws_38 (by decide) ?_
  refine xiadd (z := nI (360 * t + (20 + 7 * i + 3))) hx hb dX7_draws_39 (nI_a3 t (20 + 7 * i) 3) ?_
  refine lv_aload_n hx hb dX7_draws_40 rfl (lv_at hl 1 rfl) ?_
  refine gX7_7 X hJ (w := g.2.2.2) rfl dX7_draws_41 ?_
  refine lv_iload_n hx hb dX7_draws_44 rfl (lv_at hl 2 rfl) ?_
  refine lv_bipush (v := 7) hx hb dX7_draws_45 (by decide) ?_
  refine xiadd (z := nI (360 * t + (7))) hx hb dX7_draws_47 (nI_add (360 * t) 7) ?_
  refine ld_s X hJ (t := t) (w := upd w (7) (((75 * (w (7))) + 74) - ((75 * (w (7))) + 74) / 65537 * 65537)) (by omega) upS_1 (j := 7) (rfl) (by omega) dX7_draws_48 ?_
  refine lv_iconst (v := 2) hx hb dX7_draws_49 (by decide) ?_
  refine lv_idiv hx hb dX7_draws_50 (by decide) ?_
  refine lv_aload_n hx hb dX7_draws_51 rfl (lv_at hl 1 rfl) ?_
  refine gX7_7 X hJ (w := g.2.2.2) rfl dX7_draws_52 ?_
  refine lv_iload_n hx hb dX7_draws_55 rfl (lv_at hl 0 rfl) ?_
  refine lv_iconst (v := 2) hx hb dX7_draws_56 (by decide) ?_
  refine xiadd (z := nI (360 * t + (20 + 7 * i + 2))) hx hb dX7_draws_57 (nI_a3 t (20 + 7 * i) 2) ?_
  refine ld_s X hJ (t := t) (w := upd w (7) (((75 * (w (7))) + 74) - ((75 * (w (7))) + 74) / 65537 * 65537)) (by omega) upS_1 (j := 20 + 7 * i + 2) (rfl) (by omega) dX7_draws_58 ?_
  refine lv_irem hx hb dX7_draws_59 (fun q => hnz ((updn (by omega)).symm.trans q)) ?_
  refine st_s X (t := t) hJ (by omega) (j := 20 + 7 * i + 3) (rfl) (by omega) dX7_draws_60 (fun H locs hJ => ?_)
  refine lv_iconst (v := 0) hx hb dX7_draws_61 (by decide) ?_
  refine lv_istore (lv' := [(4, .int 0), (3, .int (nI (360 * t + (20 + 7 * i)))), (0, .ref (B + 459)), (1, .int (nI (360 * t))), (2, .int (nI i))]) hx hb dX7_draws_62 hl (by decide) rfl (fun ls hl => ?_)
  have hs : sX7_draws w i = bX7_draws_64 i 9 (upd (upd w (7) (((75 * (w (7))) + 74) - ((75 * (w (7))) + 74) / 65537 * 65537)) (20 + 7 * i + 3) ((((upd w (7) (((75 * (w (7))) + 74) - ((75 * (w (7))) + 74) / 65537 * 65537)) (7)) / 2) - (((upd w (7) (((75 * (w (7))) + 74) - ((75 * (w (7))) + 74) / 65537 * 65537)) (7)) / 2) / ((upd w (7) (((75 * (w (7))) + 74) - ((75 * (w (7))) + 74) / 65537 * 65537)) (20 + 7 * i + 2)) * ((upd w (7) (((75 * (w (7))) + 74) - ((75 * (w (7))) + 74) / 65537 * 65537)) (20 + 7 * i + 2)))) 0 := by unfold sX7_draws; rfl
  exact bk_64 9 (upd (upd w (7) (((75 * (w (7))) + 74) - ((75 * (w (7))) + 74) / 65537 * 65537)) (20 + 7 * i + 3) ((((upd w (7) (((75 * (w (7))) + 74) - ((75 * (w (7))) + 74) / 65537 * 65537)) (7)) / 2) - (((upd w (7) (((75 * (w (7))) + 74) - ((75 * (w (7))) + 74) / 65537 * 65537)) (7)) / 2) / ((upd w (7) (((75 * (w (7))) + 74) - ((75 * (w (7))) + 74) / 65537 * 65537)) (20 + 7 * i + 2)) * ((upd w (7) (((75 * (w (7))) + 74) - ((75 * (w (7))) + 74) / 65537 * 65537)) (20 + 7 * i + 2)))) 0 (by omega) (by omega) _ _ _ hJ (lv_sub hl [2, 3, 4, 1, 0] rfl) hs

def sX7_isBridge (w : Row) (x : Int32) : Int32 := sX7_in x.toInt64 0 (((w (5)) - 1).toInt64)
set_option maxHeartbeats 4000000 in
set_option maxRecDepth 100000 in
theorem mX7_isBridge (l : Launch) (E : EE) (B : Nat) (g : GS) (x : Int32) (w : Row)  (hw : g.2.2.1 0 = w) : CG l yX7_isBridge cX7_isBridge 2 (some .boolean) 1 25 E B [.ref (B + 459), .int x] g (some (.int (sX7_isBridge w x))) g := by
  refine mkI (own := RX7) (ty := .boolean) rfl (by decide) rfl (by unfold sX7_isBridge sX7_in; (repeat' split) <;> rfl) (Nat.le_of_ble_eq_true rfl) (fun P_ e_ s_ m_ a_ below meth cd Q X fin ls hl hJ => ?_)
  have hx := X.1
  have hb := X.2.1
  have hl : lv_has ls 2 [(0, .ref (B + 459)), (1, .int x)] := hl
  refine lv_iload_n hx hb dX7_isBridge_0 rfl (lv_at hl 1 rfl) ?_
  refine lv_i2l hx hb dX7_isBridge_1 rfl ?_
  refine lv_lconst (v := 0) hx hb dX7_isBridge_2 (by decide) ?_
  refine lv_aload_n hx hb dX7_isBridge_3 rfl (lv_at hl 0 rfl) ?_
  refine gX7_7 X hJ (w := g.2.2.2) rfl dX7_isBridge_4 ?_
  refine lv_iconst (v := 5) hx hb dX7_isBridge_7 (by decide) ?_
  refine ld_s X hJ (t := 0) (w := w) (by omega) hw (j := 5) (by decide) (by omega) dX7_isBridge_8 ?_
  refine lv_iconst (v := 1) hx hb dX7_isBridge_9 (by decide) ?_
  refine lv_isub hx hb dX7_isBridge_10 ?_
  refine lv_i2l hx hb dX7_isBridge_11 rfl ?_
  refine kX7_81 X hJ (mX7_in l E B _ x.toInt64 0 (((w (5)) - 1).toInt64)) rfl hl.1 ⟨Nat.le_of_ble_eq_true rfl, Nat.le_of_ble_eq_true rfl⟩ ⟨Nat.le_refl _, Nat.le_refl _⟩ (rest := []) rfl (Nat.le_of_ble_eq_true rfl) dX7_isBridge_12 (fun H locs hJ => ?_)
  have hs : sX7_isBridge w x = sX7_in x.toInt64 0 (((w (5)) - 1).toInt64) := by unfold sX7_isBridge; rfl
  exact fin hJ (by rw [hs]) dX7_isBridge_15

def sX7_isCart (w : Row) (x : Int32) : Int32 := sX7_in x.toInt64 0 (((w (6)) - 1).toInt64)
set_option maxHeartbeats 4000000 in
set_option maxRecDepth 100000 in
theorem mX7_isCart (l : Launch) (E : EE) (B : Nat) (g : GS) (x : Int32) (w : Row)  (hw : g.2.2.1 0 = w) : CG l yX7_isCart cX7_isCart 2 (some .boolean) 1 25 E B [.ref (B + 459), .int x] g (some (.int (sX7_isCart w x))) g := by
  refine mkI (own := RX7) (ty := .boolean) rfl (by decide) rfl (by unfold sX7_isCart sX7_in; (repeat' split) <;> rfl) (Nat.le_of_ble_eq_true rfl) (fun P_ e_ s_ m_ a_ below meth cd Q X fin ls hl hJ => ?_)
  have hx := X.1
  have hb := X.2.1
  have hl : lv_has ls 2 [(0, .ref (B + 459)), (1, .int x)] := hl
  refine lv_iload_n hx hb dX7_isCart_0 rfl (lv_at hl 1 rfl) ?_
  refine lv_i2l hx hb dX7_isCart_1 rfl ?_
  refine lv_lconst (v := 0) hx hb dX7_isCart_2 (by decide) ?_
  refine lv_aload_n hx hb dX7_isCart_3 rfl (lv_at hl 0 rfl) ?_
  refine gX7_7 X hJ (w := g.2.2.2) rfl dX7_isCart_4 ?_
  refine lv_bipush (v := 6) hx hb dX7_isCart_7 (by decide) ?_
  refine ld_s X hJ (t := 0) (w := w) (by omega) hw (j := 6) (by decide) (by omega) dX7_isCart_9 ?_
  refine lv_iconst (v := 1) hx hb dX7_isCart_10 (by decide) ?_
  refine lv_isub hx hb dX7_isCart_11 ?_
  refine lv_i2l hx hb dX7_isCart_12 rfl ?_
  refine kX7_81 X hJ (mX7_in l E B _ x.toInt64 0 (((w (6)) - 1).toInt64)) rfl hl.1 ⟨Nat.le_of_ble_eq_true rfl, Nat.le_of_ble_eq_true rfl⟩ ⟨Nat.le_refl _, Nat.le_refl _⟩ (rest := []) rfl (Nat.le_of_ble_eq_true rfl) dX7_isCart_13 (fun H locs hJ => ?_)
  have hs : sX7_isCart w x = sX7_in x.toInt64 0 (((w (6)) - 1).toInt64) := by unfold sX7_isCart; rfl
  exact fin hJ (by rw [hs]) dX7_isCart_16

def sX7_isNumber (w : Row) (i : Nat) (x : Int32) : Int32 := sX7_in x.toInt64 0 (((w (20 + 7 * i + 2)) - 1).toInt64)
set_option maxHeartbeats 4000000 in
set_option maxRecDepth 100000 in
theorem mX7_isNumber (l : Launch) (E : EE) (B : Nat) (g : GS) (i : Nat) (x : Int32) (w : Row) (hi : i < 12) (hw : g.2.2.1 0 = w) : CG l yX7_isNumber cX7_isNumber 3 (some .boolean) 1 25 E B [.ref (B + 459), .int (nI i), .int x] g (some (.int (sX7_isNumber w i x))) g := by
  refine mkI (own := RX7) (ty := .boolean) rfl (by decide) rfl (by unfold sX7_isNumber sX7_in; (repeat' split) <;> rfl) (Nat.le_of_ble_eq_true rfl) (fun P_ e_ s_ m_ a_ below meth cd Q X fin ls hl hJ => ?_)
  have hx := X.1
  have hb := X.2.1
  have hl : lv_has ls 3 [(0, .ref (B + 459)), (1, .int (nI i)), (2, .int x)] := hl
  refine lv_iload_n hx hb dX7_isNumber_0 rfl (lv_at hl 2 rfl) ?_
  refine lv_i2l hx hb dX7_isNumber_1 rfl ?_
  refine lv_lconst (v := 0) hx hb dX7_isNumber_2 (by decide) ?_
  refine lv_aload_n hx hb dX7_isNumber_3 rfl (lv_at hl 0 rfl) ?_
  refine gX7_7 X hJ (w := g.2.2.2) rfl dX7_isNumber_4 ?_
  refine lv_iconst (v := 0) hx hb dX7_isNumber_7 (by decide) ?_
  refine lv_iload_n hx hb dX7_isNumber_8 rfl (lv_at hl 1 rfl) ?_
  refine kX7_31 X hJ (qX7_bridgeAt l E B _ 0 i) rfl hl.1 ⟨Nat.le_of_ble_eq_true rfl, Nat.le_of_ble_eq_true rfl⟩ ⟨Nat.le_refl _, Nat.le_refl _⟩ (rest := [.ref (B + 460), .long 0, .long x.toInt64]) rfl (Nat.le_of_ble_eq_true rfl) dX7_isNumber_9 (fun H locs hJ => ?_)
  refine lv_iconst (v := 2) hx hb dX7_isNumber_12 (by decide) ?_
  refine xiadd (z := nI (360 * 0 + (20 + 7 * i + 2))) hx hb dX7_isNumber_13 (nI_a3 0 (20 + 7 * i) 2) ?_
  refine ld_s X hJ (t := 0) (w := w) (by omega) hw (j := 20 + 7 * i + 2) (rfl) (by omega) dX7_isNumber_14 ?_
  refine lv_iconst (v := 1) hx hb dX7_isNumber_15 (by decide) ?_
  refine lv_isub hx hb dX7_isNumber_16 ?_
  refine lv_i2l hx hb dX7_isNumber_17 rfl ?_
  refine kX7_81 X hJ (mX7_in l E B _ x.toInt64 0 (((w (20 + 7 * i + 2)) - 1).toInt64)) rfl hl.1 ⟨Nat.le_of_ble_eq_true rfl, Nat.le_of_ble_eq_true rfl⟩ ⟨Nat.le_refl _, Nat.le_refl _⟩ (rest := []) rfl (Nat.le_of_ble_eq_true rfl) dX7_isNumber_18 (fun H locs hJ => ?_)
  have hs : sX7_isNumber w i x = sX7_in x.toInt64 0 (((w (20 + 7 * i + 2)) - 1).toInt64) := by unfold sX7_isNumber; rfl
  exact fin hJ (by rw [hs]) dX7_isNumber_21

def bX7_many_5 (w : Row) (i : Nat) : Nat → Int32 → Nat → Int32
  | 0, _, _ => 0
  | n + 1, a, p => if w (10) ≤ nI p then (a) else (if w (104 + 8 * (nn (w (12 + p))) + 2) = nI i then (bX7_many_5 w i n (a + 1) (p + 1)) else (bX7_many_5 w i n (a + 0) (p + 1)))
def sX7_many (w : Row) (i : Nat) : Int32 := bX7_many_5 w i 9 0 0
set_option maxHeartbeats 4000000 in
set_option maxRecDepth 100000 in
theorem mX7_many (l : Launch) (E : EE) (B : Nat) (g : GS) (t : Nat) (i : Nat) (w : Row) (ht : t < 10) (hi : i < 12) (hw : g.2.2.1 t = w) (hrn : Rn w) : CG l yX7_many cX7_many 5 (some .int) 1 21 E B [.ref (B + 459), .int (nI (360 * t)), .int (nI i)] g (some (.int (sX7_many w i))) g := by
  refine mkI (own := RX7) (ty := .int) rfl (by decide) rfl (rfl) (Nat.le_of_ble_eq_true rfl) (fun P_ e_ s_ m_ a_ below meth cd Q X fin ls hl hJ => ?_)
  have hx := X.1
  have hb := X.2.1
  have hl : lv_has ls 5 [(0, .ref (B + 459)), (1, .int (nI (360 * t))), (2, .int (nI i))] := hl
  have bk_5 : ∀ (n : Nat) (a : Int32)  (p : Nat), 8 - p < n → (p ≤ 8) → ∀ (H : Heap) (locs : List Loc) (ls : Array Slot), JG E B s_ (g) H locs → lv_has ls 5 [(0, .ref (B + 459)), (1, .int (nI (360 * t))), (2, .int (nI i)), (3, .int a), (4, .int (nI p))] → sX7_many w i = bX7_many_5 w i n a p → W P_ l e_ (rmm 1 21 0 0) s_ m_ a_ below meth cd H locs 0 0 Q (F0 m_ 5 ls []) := by
    intro n
    induction n with
    | zero => intro a p hm; exact absurd hm (Nat.not_lt_zero _)
    | succ n ih =>
      intro a p hm hp H locs ls hJ hl hs
      refine lv_iload hx hb dX7_many_5 (lv_at hl 4 rfl) ?_
      refine lv_aload_n hx hb dX7_many_7 rfl (lv_at hl 0 rfl) ?_
      refine gX7_7 X hJ (w := g.2.2.2) rfl dX7_many_8 ?_
      refine lv_iload_n hx hb dX7_many_11 rfl (lv_at hl 1 rfl) ?_
      refine lv_bipush (v := 10) hx hb dX7_many_12 (by decide) ?_
      refine xiadd (z := nI (360 * t + (10))) hx hb dX7_many_14 (nI_add (360 * t) 10) ?_
      refine ld_s X hJ (t := t) (w := w) (by omega) hw (j := 10) (rfl) (by omega) dX7_many_15 ?_
      refine lv_icmp_ge (tgt := 60) hx hb dX7_many_16 (by decide) (fun c_16 => ?_) (fun c_16 => ?_)
      · skip
        refine lv_iload_n hx hb dX7_many_60 rfl (lv_at hl 3 rfl) ?_
        have hs : sX7_many w i = a := hs.trans (by rw [bX7_many_5, if_pos c_16])
        exact fin hJ (by rw [hs]) dX7_many_61
      · skip
        have hp2 := hrn.1.lt10 (by omega) c_16
        have hq9 := (hrn.2.1 p (by omega)).le
        refine lv_iload_n hx hb dX7_many_19 rfl (lv_at hl 3 rfl) ?_
        refine lv_aload_n hx hb dX7_many_20 rfl (lv_at hl 0 rfl) ?_
        refine gX7_7 X hJ (w := g.2.2.2) rfl dX7_many_21 ?_
        refine lv_iload_n hx hb dX7_many_24 rfl (lv_at hl 1 rfl) ?_
        refine lv_aload_n hx hb dX7_many_25 rfl (lv_at hl 0 rfl) ?_
        refine gX7_7 X hJ (w := g.2.2.2) rfl dX7_many_26 ?_
        refine lv_iload_n hx hb dX7_many_29 rfl (lv_at hl 1 rfl) ?_
        refine lv_bipush (v := 12) hx hb dX7_many_30 (by decide) ?_
        refine xiadd (z := nI (360 * t + (12))) hx hb dX7_many_32 (nI_add (360 * t) 12) ?_
        refine lv_iload hx hb dX7_many_33 (lv_at hl 4 rfl) ?_
        refine xiadd (z := nI (360 * t + (12 + p))) hx hb dX7_many_35 (nI_a3 t 12 p) ?_
        refine ld_s X hJ (t := t) (w := w) (by omega) hw (j := 12 + p) (rfl) (by omega) dX7_many_36 ?_
        refine cvt (y := nI (nn (w (12 + p)))) ((hrn.2.1 p (by omega)).eq) ?_
        refine kX7_40 X hJ (qX7_cartAt l E B _ t (nn (w (12 + p)))) rfl hl.1 ⟨Nat.le_of_ble_eq_true rfl, Nat.le_of_ble_eq_true rfl⟩ ⟨Nat.le_refl _, Nat.le_refl _⟩ (rest := [.ref (B + 460), .int a]) rfl (Nat.le_of_ble_eq_true rfl) dX7_many_37 (fun H locs hJ => ?_)
        refine lv_iconst (v := 2) hx hb dX7_many_40 (by decide) ?_
        refine xiadd (z := nI (360 * t + (104 + 8 * (nn (w (12 + p))) + 2))) hx hb dX7_many_41 (nI_a3 t (104 + 8 * (nn (w (12 + p)))) 2) ?_
        refine ld_s X hJ (t := t) (w := w) (by omega) hw (j := 104 + 8 * (nn (w (12 + p))) + 2) (rfl) (by omega) dX7_many_42 ?_
        refine lv_iload_n hx hb dX7_many_43 rfl (lv_at hl 2 rfl) ?_
        refine lv_icmp_ne (tgt := 51) hx hb dX7_many_44 (by decide) (fun c_44 => ?_) (fun c_44 => ?_)
        · skip
          refine lv_iconst (v := 0) hx hb dX7_many_51 (by decide) ?_
          refine lv_iadd hx hb dX7_many_52 ?_
          refine lv_istore_n (lv' := [(3, .int (a + 0)), (0, .ref (B + 459)), (1, .int (nI (360 * t))), (2, .int (nI i)), (4, .int (nI p))]) hx hb dX7_many_53 rfl hl (by decide) rfl (fun ls hl => ?_)
          refine lv_iinc (v := nI (p + 1)) (lv' := [(4, .int (nI (p + 1))), (3, .int (a + 0)), (0, .ref (B + 459)), (1, .int (nI (360 * t))), (2, .int (nI i))]) hx hb dX7_many_54 hl (k := 4) rfl (by first | exact nI_add _ _ | rfl) (by decide) rfl (fun ls hl => ?_)
          refine lv_goto (tgt := 5) hx hb dX7_many_57 (by decide) ?_
          have hs : sX7_many w i = bX7_many_5 w i n (a + 0) (p + 1) := hs.trans (by rw [bX7_many_5, if_neg c_16, if_neg c_44])
          exact ih (a + 0) (p + 1) (by omega) (by omega) _ _ _ hJ (lv_sub hl [2, 3, 4, 1, 0] rfl) hs
        · skip
          refine lv_iconst (v := 1) hx hb dX7_many_47 (by decide) ?_
          refine lv_goto (tgt := 52) hx hb dX7_many_48 (by decide) ?_
          refine lv_iadd hx hb dX7_many_52 ?_
          refine lv_istore_n (lv' := [(3, .int (a + 1)), (0, .ref (B + 459)), (1, .int (nI (360 * t))), (2, .int (nI i)), (4, .int (nI p))]) hx hb dX7_many_53 rfl hl (by decide) rfl (fun ls hl => ?_)
          refine lv_iinc (v := nI (p + 1)) (lv' := [(4, .int (nI (p + 1))), (3, .int (a + 1)), (0, .ref (B + 459)), (1, .int (nI (360 * t))), (2, .int (nI i))]) hx hb dX7_many_54 hl (k := 4) rfl (by first | exact nI_add _ _ | rfl) (by decide) rfl (fun ls hl => ?_)
          refine lv_goto (tgt := 5) hx hb dX7_many_57 (by decide) ?_
          have hs : sX7_many w i = bX7_many_5 w i n (a + 1) (p + 1) := hs.trans (by rw [bX7_many_5, if_neg c_16, if_pos c_44])
          exact ih (a + 1) (p + 1) (by omega) (by omega) _ _ _ hJ (lv_sub hl [2, 3, 4, 1, 0] rfl) hs
  refine lv_iconst (v := 0) hx hb dX7_many_0 (by decide) ?_
  refine lv_istore_n (lv' := [(3, .int 0), (0, .ref (B + 459)), (1, .int (nI (360 * t))), (2, .int (nI i))]) hx hb dX7_many_1 rfl hl (by decide) rfl (fun ls hl => ?_)
  refine lv_iconst (v := 0) hx hb dX7_many_2 (by decide) ?_
  refine lv_istore (lv' := [(4, .int 0), (3, .int 0), (0, .ref (B + 459)), (1, .int (nI (360 * t))), (2, .int (nI i))]) hx hb dX7_many_3 hl (by decide) rfl (fun ls hl => ?_)
  have hs : sX7_many w i = bX7_many_5 w i 9 0 0 := by unfold sX7_many; rfl
  exact bk_5 9 0 0 (by omega) (by omega) _ _ _ hJ (lv_sub hl [2, 3, 4, 1, 0] rfl) hs

def bX7_waiter_6 (w : Row) (i : Nat) (r : Int32) : Nat → Int32 → Nat → Int32
  | 0, _, _ => 0
  | n + 1, a, p => if w (10) ≤ nI p then ((-6)) else (if w (104 + 8 * (nn (w (12 + p))) + 2) = nI i then (if a = 0 then (nI (nn (w (12 + p)))) else (bX7_waiter_6 w i r n (a + (-1)) (p + 1))) else (bX7_waiter_6 w i r n a (p + 1)))
def sX7_waiter (w : Row) (i : Nat) (r : Int32) : Int32 := bX7_waiter_6 w i r 9 r 0
set_option maxHeartbeats 4000000 in
set_option maxRecDepth 100000 in
theorem mX7_waiter (l : Launch) (E : EE) (B : Nat) (g : GS) (t : Nat) (i : Nat) (r : Int32) (w : Row) (ht : t < 10) (hi : i < 12) (hw : g.2.2.1 t = w) (hrn : Rn w) : CG l yX7_waiter cX7_waiter 7 (some .int) 1 21 E B [.ref (B + 459), .int (nI (360 * t)), .int (nI i), .int r] g (some (.int (sX7_waiter w i r))) g := by
  refine mkI (own := RX7) (ty := .int) rfl (by decide) rfl (rfl) (Nat.le_of_ble_eq_true rfl) (fun P_ e_ s_ m_ a_ below meth cd Q X fin ls hl hJ => ?_)
  have hx := X.1
  have hb := X.2.1
  have hl : lv_has ls 7 [(0, .ref (B + 459)), (1, .int (nI (360 * t))), (2, .int (nI i)), (3, .int r)] := hl
  have bk_6 : ∀ (n : Nat) (a : Int32)  (p : Nat), 8 - p < n → (p ≤ 8) → ∀ (H : Heap) (locs : List Loc) (ls : Array Slot), JG E B s_ (g) H locs → lv_has ls 7 [(0, .ref (B + 459)), (1, .int (nI (360 * t))), (2, .int (nI i)), (4, .int a), (5, .int (nI p))] → sX7_waiter w i r = bX7_waiter_6 w i r n a p → W P_ l e_ (rmm 1 21 0 0) s_ m_ a_ below meth cd H locs 0 0 Q (F0 m_ 6 ls []) := by
    intro n
    induction n with
    | zero => intro a p hm; exact absurd hm (Nat.not_lt_zero _)
    | succ n ih =>
      intro a p hm hp H locs ls hJ hl hs
      refine lv_iload hx hb dX7_waiter_6 (lv_at hl 4 rfl) ?_
      refine lv_aload_n hx hb dX7_waiter_8 rfl (lv_at hl 0 rfl) ?_
      refine gX7_7 X hJ (w := g.2.2.2) rfl dX7_waiter_9 ?_
      refine lv_iload_n hx hb dX7_waiter_12 rfl (lv_at hl 1 rfl) ?_
      refine lv_bipush (v := 10) hx hb dX7_waiter_13 (by decide) ?_
      refine xiadd (z := nI (360 * t + (10))) hx hb dX7_waiter_15 (nI_add (360 * t) 10) ?_
      refine ld_s X hJ (t := t) (w := w) (by omega) hw (j := 10) (rfl) (by omega) dX7_waiter_16 ?_
      refine lv_icmp_ge (tgt := 68) hx hb dX7_waiter_17 (by decide) (fun c_17 => ?_) (fun c_17 => ?_)
      · skip
        refine lv_bipush (v := (-6)) hx hb dX7_waiter_68 (by decide) ?_
        have hs : sX7_waiter w i r = (-6) := hs.trans (by rw [bX7_waiter_6, if_pos c_17])
        exact fin hJ (by rw [hs]) dX7_waiter_70
      · skip
        have hp2 := hrn.1.lt10 (by omega) c_17
        have hq9 := (hrn.2.1 p (by omega)).le
        refine lv_aload_n hx hb dX7_waiter_20 rfl (lv_at hl 0 rfl) ?_
        refine gX7_7 X hJ (w := g.2.2.2) rfl dX7_waiter_21 ?_
        refine lv_iload_n hx hb dX7_waiter_24 rfl (lv_at hl 1 rfl) ?_
        refine lv_bipush (v := 12) hx hb dX7_waiter_25 (by decide) ?_
        refine xiadd (z := nI (360 * t + (12))) hx hb dX7_waiter_27 (nI_add (360 * t) 12) ?_
        refine lv_iload hx hb dX7_waiter_28 (lv_at hl 4 rfl) ?_
        refine xiadd (z := nI (360 * t + (12 + p))) hx hb dX7_waiter_30 (nI_a3 t 12 p) ?_
        refine ld_s X hJ (t := t) (w := w) (by omega) hw (j := 12 + p) (rfl) (by omega) dX7_waiter_31 ?_
        refine cvt (y := nI (nn (w (12 + p)))) ((hrn.2.1 p (by omega)).eq) ?_
        refine lv_istore (lv' := [(6, .int (nI (nn (w (12 + p))))), (0, .ref (B + 459)), (1, .int (nI (360 * t))), (2, .int (nI i)), (4, .int a), (5, .int (nI p))]) hx hb dX7_waiter_32 hl (by decide) rfl (fun ls hl => ?_)
        refine lv_aload_n hx hb dX7_waiter_34 rfl (lv_at hl 1 rfl) ?_
        refine gX7_7 X hJ (w := g.2.2.2) rfl dX7_waiter_35 ?_
        refine lv_iload_n hx hb dX7_waiter_38 rfl (lv_at hl 2 rfl) ?_
        refine lv_iload hx hb dX7_waiter_39 (lv_at hl 0 rfl) ?_
        refine kX7_40 X hJ (qX7_cartAt l E B _ t (nn (w (12 + p)))) rfl hl.1 ⟨Nat.le_of_ble_eq_true rfl, Nat.le_of_ble_eq_true rfl⟩ ⟨Nat.le_refl _, Nat.le_refl _⟩ (rest := [.ref (B + 460)]) rfl (Nat.le_of_ble_eq_true rfl) dX7_waiter_41 (fun H locs hJ => ?_)
        refine lv_iconst (v := 2) hx hb dX7_waiter_44 (by decide) ?_
        refine xiadd (z := nI (360 * t + (104 + 8 * (nn (w (12 + p))) + 2))) hx hb dX7_waiter_45 (nI_a3 t (104 + 8 * (nn (w (12 + p)))) 2) ?_
        refine ld_s X hJ (t := t) (w := w) (by omega) hw (j := 104 + 8 * (nn (w (12 + p))) + 2) (rfl) (by omega) dX7_waiter_46 ?_
        refine lv_iload_n hx hb dX7_waiter_47 rfl (lv_at hl 3 rfl) ?_
        refine lv_icmp_ne (tgt := 62) hx hb dX7_waiter_48 (by decide) (fun c_48 => ?_) (fun c_48 => ?_)
        · skip
          refine lv_iinc (v := nI (p + 1)) (lv' := [(5, .int (nI (p + 1))), (6, .int (nI (nn (w (12 + p))))), (0, .ref (B + 459)), (1, .int (nI (360 * t))), (2, .int (nI i)), (4, .int a)]) hx hb dX7_waiter_62 hl (k := 5) rfl (by first | exact nI_add _ _ | rfl) (by decide) rfl (fun ls hl => ?_)
          refine lv_goto (tgt := 6) hx hb dX7_waiter_65 (by decide) ?_
          have hs : sX7_waiter w i r = bX7_waiter_6 w i r n a (p + 1) := hs.trans (by rw [bX7_waiter_6, if_neg c_17, if_neg c_48])
          exact ih a (p + 1) (by omega) (by omega) _ _ _ hJ (lv_sub hl [2, 3, 4, 5, 0] rfl) hs
        · skip
          refine lv_iload hx hb dX7_waiter_51 (lv_at hl 4 rfl) ?_
          refine lv_if_ne (tgt := 59) hx hb dX7_waiter_53 (by decide) (fun c_53 => ?_) (fun c_53 => ?_)
          · skip
            refine lv_iinc (v := a + (-1)) (lv' := [(4, .int (a + (-1))), (6, .int (nI (nn (w (12 + p))))), (0, .ref (B + 459)), (1, .int (nI (360 * t))), (2, .int (nI i)), (5, .int (nI p))]) hx hb dX7_waiter_59 hl (k := 4) rfl (by first | exact rfl | rfl) (by decide) rfl (fun ls hl => ?_)
            refine lv_iinc (v := nI (p + 1)) (lv' := [(5, .int (nI (p + 1))), (4, .int (a + (-1))), (6, .int (nI (nn (w (12 + p))))), (0, .ref (B + 459)), (1, .int (nI (360 * t))), (2, .int (nI i))]) hx hb dX7_waiter_62 hl (k := 5) rfl (by first | exact nI_add _ _ | rfl) (by decide) rfl (fun ls hl => ?_)
            refine lv_goto (tgt := 6) hx hb dX7_waiter_65 (by decide) ?_
            have hs : sX7_waiter w i r = bX7_waiter_6 w i r n (a + (-1)) (p + 1) := hs.trans (by rw [bX7_waiter_6, if_neg c_17, if_pos c_48, if_neg c_53])
            exact ih (a + (-1)) (p + 1) (by omega) (by omega) _ _ _ hJ (lv_sub hl [3, 4, 5, 1, 0] rfl) hs
          · skip
            refine lv_iload hx hb dX7_waiter_56 (lv_at hl 0 rfl) ?_
            have hs : sX7_waiter w i r = nI (nn (w (12 + p))) := hs.trans (by rw [bX7_waiter_6, if_neg c_17, if_pos c_48, if_pos c_53])
            exact fin hJ (by rw [hs]) dX7_waiter_58
  refine lv_iload_n hx hb dX7_waiter_0 rfl (lv_at hl 3 rfl) ?_
  refine lv_istore (lv' := [(4, .int r), (0, .ref (B + 459)), (1, .int (nI (360 * t))), (2, .int (nI i)), (3, .int r)]) hx hb dX7_waiter_1 hl (by decide) rfl (fun ls hl => ?_)
  refine lv_iconst (v := 0) hx hb dX7_waiter_3 (by decide) ?_
  refine lv_istore (lv' := [(5, .int 0), (4, .int r), (0, .ref (B + 459)), (1, .int (nI (360 * t))), (2, .int (nI i)), (3, .int r)]) hx hb dX7_waiter_4 hl (by decide) rfl (fun ls hl => ?_)
  have hs : sX7_waiter w i r = bX7_waiter_6 w i r 9 r 0 := by unfold sX7_waiter; rfl
  exact bk_6 9 r 0 (by omega) (by omega) _ _ _ hJ (lv_sub hl [2, 3, 4, 1, 0] rfl) hs

