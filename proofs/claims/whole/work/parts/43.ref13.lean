theorem inc_toInt {x : Int32} (h : x.toInt ≤ 999) : (x + 1).toInt = x.toInt + 1 := by
  have hb := x.le_toInt
  rw [Int32.toInt_add, show (1 : Int32).toInt = 1 from by decide]
  rw [Int.bmod_eq_of_le (by omega) (by omega)]
theorem le_of_nlt {x y : Int32} (h : ¬ y < x) : x.toInt ≤ y.toInt := by
  rw [Int32.lt_iff_toInt_lt] at h; omega
theorem lt_of_nle {x y : Int32} (h : ¬ y ≤ x) : x.toInt < y.toInt := by
  rw [Int32.le_iff_toInt_le] at h; omega
def bX7_nearer_6 (x : Int32) (y : Int32) (z : Int32) (v : Int32) : Nat → Int32 → Int32 → Int32
  | 0, _, _ => 0
  | n + 1, a, k => if y < k then (a) else (if sX7_size (k - v) ≤ sX7_size (k - z) then (bX7_nearer_6 x y z v n (a + 0) (k + 1)) else (bX7_nearer_6 x y z v n (a + 1) (k + 1)))
def sX7_nearer (x : Int32) (y : Int32) (z : Int32) (v : Int32) : Int32 := bX7_nearer_6 x y z v 1001 0 x
set_option maxHeartbeats 4000000 in
set_option maxRecDepth 100000 in
theorem mX7_nearer (l : Launch) (E : EE) (B : Nat) (g : GS) (x : Int32) (y : Int32) (z : Int32) (v : Int32) (h0 : 0 ≤ x.toInt) (h1 : y.toInt ≤ 999) : CG l yX7_nearer cX7_nearer 6 (some .int) 1 20 E B [.int x, .int y, .int z, .int v] g (some (.int (sX7_nearer x y z v))) g := by
  refine mkI (own := RX7) (ty := .int) rfl (by decide) rfl (rfl) (Nat.le_of_ble_eq_true rfl) (fun P_ e_ s_ m_ a_ below meth cd Q X fin ls hl hJ => ?_)
  have hx := X.1
  have hb := X.2.1
  have hl : lv_has ls 6 [(0, .int x), (1, .int y), (2, .int z), (3, .int v)] := hl
  have bk_6 : ∀ (n : Nat) (a : Int32)  (k : Int32), (y.toInt - k.toInt + 1).toNat < n → (0 ≤ k.toInt) → ∀ (H : Heap) (locs : List Loc) (ls : Array Slot), JG E B s_ (g) H locs → lv_has ls 6 [(0, .int x), (1, .int y), (2, .int z), (3, .int v), (4, .int a), (5, .int k)] → sX7_nearer x y z v = bX7_nearer_6 x y z v n a k → W P_ l e_ (rmm 1 20 0 0) s_ m_ a_ below meth cd H locs 0 0 Q (F0 m_ 6 ls []) := by
    intro n
    induction n with
    | zero => intro a k hm; exact absurd hm (Nat.not_lt_zero _)
    | succ n ih =>
      intro a k hm hk H locs ls hJ hl hs
      refine lv_iload hx hb dX7_nearer_6 (lv_at hl 5 rfl) ?_
      refine lv_iload_n hx hb dX7_nearer_8 rfl (lv_at hl 1 rfl) ?_
      refine lv_icmp_gt (tgt := 45) hx hb dX7_nearer_9 (by decide) (fun c_9 => ?_) (fun c_9 => ?_)
      · skip
        refine lv_iload hx hb dX7_nearer_45 (lv_at hl 4 rfl) ?_
        have hs : sX7_nearer x y z v = a := hs.trans (by rw [bX7_nearer_6, if_pos c_9])
        exact fin hJ (by rw [hs]) dX7_nearer_47
      · skip
        have hky := le_of_nlt c_9
        have hkx : k.toInt ≤ 999 := by omega
        refine lv_iload hx hb dX7_nearer_12 (lv_at hl 4 rfl) ?_
        refine lv_iload hx hb dX7_nearer_14 (lv_at hl 5 rfl) ?_
        refine lv_iload_n hx hb dX7_nearer_16 rfl (lv_at hl 2 rfl) ?_
        refine lv_isub hx hb dX7_nearer_17 ?_
        refine kX7_43 X hJ (mX7_size l E B _ (k - z)) rfl hl.1 ⟨Nat.le_of_ble_eq_true rfl, Nat.le_of_ble_eq_true rfl⟩ ⟨Nat.le_refl _, Nat.le_refl _⟩ (rest := [.int a]) rfl (Nat.le_of_ble_eq_true rfl) dX7_nearer_18 (fun H locs hJ => ?_)
        refine lv_iload hx hb dX7_nearer_21 (lv_at hl 5 rfl) ?_
        refine lv_iload_n hx hb dX7_nearer_23 rfl (lv_at hl 3 rfl) ?_
        refine lv_isub hx hb dX7_nearer_24 ?_
        refine kX7_43 X hJ (mX7_size l E B _ (k - v)) rfl hl.1 ⟨Nat.le_of_ble_eq_true rfl, Nat.le_of_ble_eq_true rfl⟩ ⟨Nat.le_refl _, Nat.le_refl _⟩ (rest := [.int (sX7_size (k - z)), .int a]) rfl (Nat.le_of_ble_eq_true rfl) dX7_nearer_25 (fun H locs hJ => ?_)
        refine lv_icmp_ge (tgt := 35) hx hb dX7_nearer_28 (by decide) (fun c_28 => ?_) (fun c_28 => ?_)
        · skip
          refine lv_iconst (v := 0) hx hb dX7_nearer_35 (by decide) ?_
          refine lv_iadd hx hb dX7_nearer_36 ?_
          refine lv_istore (lv' := [(4, .int (a + 0)), (0, .int x), (1, .int y), (2, .int z), (3, .int v), (5, .int k)]) hx hb dX7_nearer_37 hl (by decide) rfl (fun ls hl => ?_)
          refine lv_iinc (v := k + 1) (lv' := [(5, .int (k + 1)), (4, .int (a + 0)), (0, .int x), (1, .int y), (2, .int z), (3, .int v)]) hx hb dX7_nearer_39 hl (k := 5) rfl (by first | exact rfl | rfl) (by decide) rfl (fun ls hl => ?_)
          refine lv_goto (tgt := 6) hx hb dX7_nearer_42 (by decide) ?_
          have hs : sX7_nearer x y z v = bX7_nearer_6 x y z v n (a + 0) (k + 1) := hs.trans (by rw [bX7_nearer_6, if_neg c_9, if_pos c_28])
          exact ih (a + 0) (k + 1) (by have := inc_toInt hkx; omega) (by have := inc_toInt hkx; omega) _ _ _ hJ (lv_sub hl [2, 3, 4, 5, 1, 0] rfl) hs
        · skip
          refine lv_iconst (v := 1) hx hb dX7_nearer_31 (by decide) ?_
          refine lv_goto (tgt := 36) hx hb dX7_nearer_32 (by decide) ?_
          refine lv_iadd hx hb dX7_nearer_36 ?_
          refine lv_istore (lv' := [(4, .int (a + 1)), (0, .int x), (1, .int y), (2, .int z), (3, .int v), (5, .int k)]) hx hb dX7_nearer_37 hl (by decide) rfl (fun ls hl => ?_)
          refine lv_iinc (v := k + 1) (lv' := [(5, .int (k + 1)), (4, .int (a + 1)), (0, .int x), (1, .int y), (2, .int z), (3, .int v)]) hx hb dX7_nearer_39 hl (k := 5) rfl (by first | exact rfl | rfl) (by decide) rfl (fun ls hl => ?_)
          refine lv_goto (tgt := 6) hx hb dX7_nearer_42 (by decide) ?_
          have hs : sX7_nearer x y z v = bX7_nearer_6 x y z v n (a + 1) (k + 1) := hs.trans (by rw [bX7_nearer_6, if_neg c_9, if_neg c_28])
          exact ih (a + 1) (k + 1) (by have := inc_toInt hkx; omega) (by have := inc_toInt hkx; omega) _ _ _ hJ (lv_sub hl [2, 3, 4, 5, 1, 0] rfl) hs
  refine lv_iconst (v := 0) hx hb dX7_nearer_0 (by decide) ?_
  refine lv_istore (lv' := [(4, .int 0), (0, .int x), (1, .int y), (2, .int z), (3, .int v)]) hx hb dX7_nearer_1 hl (by decide) rfl (fun ls hl => ?_)
  refine lv_iload_n hx hb dX7_nearer_3 rfl (lv_at hl 1 rfl) ?_
  refine lv_istore (lv' := [(5, .int x), (4, .int 0), (0, .int x), (1, .int y), (2, .int z), (3, .int v)]) hx hb dX7_nearer_4 hl (by decide) rfl (fun ls hl => ?_)
  have hs : sX7_nearer x y z v = bX7_nearer_6 x y z v 1001 0 x := by unfold sX7_nearer; rfl
  exact bk_6 1001 0 x (by omega) (h0) _ _ _ hJ (lv_sub hl [2, 3, 4, 5, 1, 0] rfl) hs

def sX7_wins (w : Row) (x : Int32) (y : Int32) (z : Int32) (v : Int32) : Int32 := if sX7_isCart w x = 0 then ((-1)) else (if sX7_isBridge w y = 0 then ((-1)) else (if sX7_isNumber w (nn y) z = 0 then ((-2)) else (if sX7_isNumber w (nn y) v = 0 then ((-2)) else (sX7_nearer (w (168 + 2 * (12 * (nn x) + (nn y)))) (w (168 + 2 * (12 * (nn x) + (nn y)) + 1)) z v))))
set_option maxHeartbeats 4000000 in
set_option maxRecDepth 100000 in
theorem mX7_wins (l : Launch) (E : EE) (B : Nat) (g : GS) (x : Int32) (y : Int32) (z : Int32) (v : Int32) (w : Row)  (hw : g.2.2.1 0 = w) (hrn : Rn w) (hrg : Rg w) : CG l yX7_wins cX7_wins 6 (some .int) 2 47 E B [.ref (B + 459), .int x, .int y, .int z, .int v] g (some (.int (sX7_wins w x y z v))) g := by
  refine mkI (own := RX7) (ty := .int) rfl (by decide) rfl (rfl) (Nat.le_of_ble_eq_true rfl) (fun P_ e_ s_ m_ a_ below meth cd Q X fin ls hl hJ => ?_)
  have hx := X.1
  have hb := X.2.1
  have hl : lv_has ls 6 [(0, .ref (B + 459)), (1, .int x), (2, .int y), (3, .int z), (4, .int v)] := hl
  refine lv_aload_n hx hb dX7_wins_0 rfl (lv_at hl 0 rfl) ?_
  refine lv_iload_n hx hb dX7_wins_1 rfl (lv_at hl 1 rfl) ?_
  refine kX7_95 X hJ (mX7_isCart l E B _ x w hw) rfl (by omega) (at_M rfl) hl.1 ⟨Nat.le_of_ble_eq_true rfl, Nat.le_of_ble_eq_true rfl⟩ ⟨Nat.le_refl _, Nat.le_refl _⟩ (rest := []) rfl (Nat.le_of_ble_eq_true rfl) dX7_wins_2 (fun H locs hJ => ?_)
  refine lv_if_eq (tgt := 16) hx hb dX7_wins_5 (by decide) (fun c_5 => ?_) (fun c_5 => ?_)
  · skip
    refine lv_iconst (v := (-1)) hx hb dX7_wins_16 (by decide) ?_
    have hs : sX7_wins w x y z v = (-1) := by unfold sX7_wins; rw [if_pos c_5]
    exact fin hJ (by rw [hs]) dX7_wins_17
  · skip
    refine lv_aload_n hx hb dX7_wins_8 rfl (lv_at hl 0 rfl) ?_
    refine lv_iload_n hx hb dX7_wins_9 rfl (lv_at hl 2 rfl) ?_
    refine kX7_98 X hJ (mX7_isBridge l E B _ y w hw) rfl (by omega) (at_M rfl) hl.1 ⟨Nat.le_of_ble_eq_true rfl, Nat.le_of_ble_eq_true rfl⟩ ⟨Nat.le_refl _, Nat.le_refl _⟩ (rest := []) rfl (Nat.le_of_ble_eq_true rfl) dX7_wins_10 (fun H locs hJ => ?_)
    refine lv_if_ne (tgt := 18) hx hb dX7_wins_13 (by decide) (fun c_13 => ?_) (fun c_13 => ?_)
    · skip
      have hC_x := (isCart_of hrn.1 c_5).2.2
      have hB_y := (isBridge_of hrn.1 c_13).2.2
      have hR := hrg _ _ hC_x hB_y
      have hl : lv_has ls 6 [(0, .ref (B + 459)), (1, .int (nI (nn x))), (2, .int y), (3, .int z), (4, .int v)] := by rw [← show x = nI (nn x) from (isCart_of hrn.1 c_5).1]; exact hl
      have hl : lv_has ls 6 [(0, .ref (B + 459)), (1, .int (nI (nn x))), (2, .int (nI (nn y))), (3, .int z), (4, .int v)] := by rw [← show y = nI (nn y) from (isBridge_of hrn.1 c_13).1]; exact hl
      refine lv_aload_n hx hb dX7_wins_18 rfl (lv_at hl 0 rfl) ?_
      refine lv_iload_n hx hb dX7_wins_19 rfl (lv_at hl 2 rfl) ?_
      refine lv_iload_n hx hb dX7_wins_20 rfl (lv_at hl 3 rfl) ?_
      refine kX7_101 X hJ (mX7_isNumber l E B _ (nn y) z w (by omega) hw) rfl (by omega) (at_M rfl) hl.1 ⟨Nat.le_of_ble_eq_true rfl, Nat.le_of_ble_eq_true rfl⟩ ⟨Nat.le_refl _, Nat.le_refl _⟩ (rest := []) rfl (Nat.le_of_ble_eq_true rfl) dX7_wins_21 (fun H locs hJ => ?_)
      refine lv_if_eq (tgt := 37) hx hb dX7_wins_24 (by decide) (fun c_24 => ?_) (fun c_24 => ?_)
      · skip
        refine lv_bipush (v := (-2)) hx hb dX7_wins_37 (by decide) ?_
        have hs : sX7_wins w x y z v = (-2) := by unfold sX7_wins; rw [if_neg c_5, if_neg c_13, if_pos c_24]
        exact fin hJ (by rw [hs]) dX7_wins_39
      · skip
        refine lv_aload_n hx hb dX7_wins_27 rfl (lv_at hl 0 rfl) ?_
        refine lv_iload_n hx hb dX7_wins_28 rfl (lv_at hl 2 rfl) ?_
        refine lv_iload hx hb dX7_wins_29 (lv_at hl 4 rfl) ?_
        refine kX7_101 X hJ (mX7_isNumber l E B _ (nn y) v w (by omega) hw) rfl (by omega) (at_M rfl) hl.1 ⟨Nat.le_of_ble_eq_true rfl, Nat.le_of_ble_eq_true rfl⟩ ⟨Nat.le_refl _, Nat.le_refl _⟩ (rest := []) rfl (Nat.le_of_ble_eq_true rfl) dX7_wins_31 (fun H locs hJ => ?_)
        refine lv_if_ne (tgt := 40) hx hb dX7_wins_34 (by decide) (fun c_34 => ?_) (fun c_34 => ?_)
        · skip
          refine lv_iconst (v := 0) hx hb dX7_wins_40 (by decide) ?_
          refine lv_iload_n hx hb dX7_wins_41 rfl (lv_at hl 1 rfl) ?_
          refine lv_iload_n hx hb dX7_wins_42 rfl (lv_at hl 2 rfl) ?_
          refine kX7_36 X hJ (qX7_rangeAt l E B _ 0 (nn x) (nn y)) rfl hl.1 ⟨Nat.le_of_ble_eq_true rfl, Nat.le_of_ble_eq_true rfl⟩ ⟨Nat.le_refl _, Nat.le_refl _⟩ (rest := []) rfl (Nat.le_of_ble_eq_true rfl) dX7_wins_43 (fun H locs hJ => ?_)
          refine lv_istore (lv' := [(5, .int (nI (360 * 0 + (168 + 2 * (12 * (nn x) + (nn y)))))), (0, .ref (B + 459)), (1, .int (nI (nn x))), (2, .int (nI (nn y))), (3, .int z), (4, .int v)]) hx hb dX7_wins_46 hl (by decide) rfl (fun ls hl => ?_)
          refine lv_aload_n hx hb dX7_wins_48 rfl (lv_at hl 1 rfl) ?_
          refine gX7_7 X hJ (w := g.2.2.2) rfl dX7_wins_49 ?_
          refine lv_iload hx hb dX7_wins_52 (lv_at hl 0 rfl) ?_
          refine ld_s X hJ (t := 0) (w := w) (by omega) hw (j := 168 + 2 * (12 * (nn x) + (nn y))) (rfl) (by omega) dX7_wins_54 ?_
          refine lv_aload_n hx hb dX7_wins_55 rfl (lv_at hl 1 rfl) ?_
          refine gX7_7 X hJ (w := g.2.2.2) rfl dX7_wins_56 ?_
          refine lv_iload hx hb dX7_wins_59 (lv_at hl 0 rfl) ?_
          refine lv_iconst (v := 1) hx hb dX7_wins_61 (by decide) ?_
          refine xiadd (z := nI (360 * 0 + (168 + 2 * (12 * (nn x) + (nn y)) + 1))) hx hb dX7_wins_62 (nI_a3 0 (168 + 2 * (12 * (nn x) + (nn y))) 1) ?_
          refine ld_s X hJ (t := 0) (w := w) (by omega) hw (j := 168 + 2 * (12 * (nn x) + (nn y)) + 1) (rfl) (by omega) dX7_wins_63 ?_
          refine lv_iload_n hx hb dX7_wins_64 rfl (lv_at hl 4 rfl) ?_
          refine lv_iload hx hb dX7_wins_65 (lv_at hl 5 rfl) ?_
          refine kX7_177 X hJ (mX7_nearer l E B _ (w (168 + 2 * (12 * (nn x) + (nn y)))) (w (168 + 2 * (12 * (nn x) + (nn y)) + 1)) z v (hR.1) (hR.2)) rfl hl.1 ⟨Nat.le_of_ble_eq_true rfl, Nat.le_of_ble_eq_true rfl⟩ ⟨Nat.le_refl _, Nat.le_refl _⟩ (rest := []) rfl (Nat.le_of_ble_eq_true rfl) dX7_wins_67 (fun H locs hJ => ?_)
          have hs : sX7_wins w x y z v = sX7_nearer (w (168 + 2 * (12 * (nn x) + (nn y)))) (w (168 + 2 * (12 * (nn x) + (nn y)) + 1)) z v := by unfold sX7_wins; rw [if_neg c_5, if_neg c_13, if_neg c_24, if_neg c_34]
          exact fin hJ (by rw [hs]) dX7_wins_70
        · skip
          refine lv_bipush (v := (-2)) hx hb dX7_wins_37 (by decide) ?_
          have hs : sX7_wins w x y z v = (-2) := by unfold sX7_wins; rw [if_neg c_5, if_neg c_13, if_neg c_24, if_pos c_34]
          exact fin hJ (by rw [hs]) dX7_wins_39
    · skip
      refine lv_iconst (v := (-1)) hx hb dX7_wins_16 (by decide) ?_
      have hs : sX7_wins w x y z v = (-1) := by unfold sX7_wins; rw [if_neg c_5, if_pos c_13]
      exact fin hJ (by rw [hs]) dX7_wins_17

def bX7_bestGuess_78 (w : Row) (x : Int32) (y : Int32) (z : Int32) (v : Int32) : Nat → Nat → Nat → Int32 → Int32 → Nat → Int32
  | 0, _, _, _, _, _ => 0
  | n + 1, i, q, be, mo, p => if w (20 + 7 * i + 2) ≤ nI p then (if v = 0 then (be) else (mo)) else (if sX7_nearer (w (168 + 2 * (12 * q + i))) (w (168 + 2 * (12 * q + i) + 1)) (nI p) z ≤ mo then (if sX7_nearer (w (168 + 2 * (12 * q + i))) (w (168 + 2 * (12 * q + i) + 1)) (nI p) z ≤ mo then (bX7_bestGuess_78 w x y z v n i q be mo (p + 1)) else (bX7_bestGuess_78 w x y z v n i q be (sX7_nearer (w (168 + 2 * (12 * q + i))) (w (168 + 2 * (12 * q + i) + 1)) (nI p) z) (p + 1))) else (if sX7_nearer (w (168 + 2 * (12 * q + i))) (w (168 + 2 * (12 * q + i) + 1)) (nI p) z ≤ mo then (bX7_bestGuess_78 w x y z v n i q (nI p) mo (p + 1)) else (bX7_bestGuess_78 w x y z v n i q (nI p) (sX7_nearer (w (168 + 2 * (12 * q + i))) (w (168 + 2 * (12 * q + i) + 1)) (nI p) z) (p + 1))))
def sX7_bestGuess (w : Row) (x : Int32) (y : Int32) (z : Int32) (v : Int32) : Int32 := if sX7_isCart w x = 0 then ((-1)) else (if sX7_isBridge w y = 0 then ((-1)) else (if sX7_isNumber w (nn y) z = 0 then ((-2)) else (if sX7_in v.toInt64 0 1 = 0 then ((-2)) else (bX7_bestGuess_78 w x y z v 1001 (nn y) (nn x) 0 (sX7_nearer (w (168 + 2 * (12 * (nn x) + (nn y)))) (w (168 + 2 * (12 * (nn x) + (nn y)) + 1)) 0 z) 1))))
set_option maxHeartbeats 4000000 in
set_option maxRecDepth 100000 in
theorem mX7_bestGuess (l : Launch) (E : EE) (B : Nat) (g : GS) (x : Int32) (y : Int32) (z : Int32) (v : Int32) (w : Row)  (hw : g.2.2.1 0 = w) (hrn : Rn w) (hrg : Rg w) : CG l yX7_bestGuess cX7_bestGuess 10 (some .int) 2 47 E B [.ref (B + 459), .int x, .int y, .int z, .int v] g (some (.int (sX7_bestGuess w x y z v))) g := by
  refine mkI (own := RX7) (ty := .int) rfl (by decide) rfl (rfl) (Nat.le_of_ble_eq_true rfl) (fun P_ e_ s_ m_ a_ below meth cd Q X fin ls hl hJ => ?_)
  have hx := X.1
  have hb := X.2.1
  have hl : lv_has ls 10 [(0, .ref (B + 459)), (1, .int x), (2, .int y), (3, .int z), (4, .int v)] := hl
  have bk_78 : ∀ (n : Nat) (i : Nat)  (q : Nat)  (be : Int32)  (mo : Int32)  (p : Nat), 1000 - p < n → (q < 8 ∧ i < 12) → (p ≤ 1000) → ∀ (H : Heap) (locs : List Loc) (ls : Array Slot), JG E B s_ (g) H locs → lv_has ls 10 [(0, .ref (B + 459)), (2, .int (nI i)), (3, .int z), (4, .int v), (5, .int (nI (360 * 0 + (168 + 2 * (12 * q + i))))), (6, .int be), (7, .int mo), (8, .int (nI p))] → sX7_bestGuess w x y z v = bX7_bestGuess_78 w x y z v n i q be mo p → W P_ l e_ (rmm 2 47 0 0) s_ m_ a_ below meth cd H locs 0 0 Q (F0 m_ 78 ls []) := by
    intro n
    induction n with
    | zero => intro i q be mo p hm; exact absurd hm (Nat.not_lt_zero _)
    | succ n ih =>
      intro i q be mo p hm hqi hp H locs ls hJ hl hs
      refine lv_iload hx hb dX7_bestGuess_78 (lv_at hl 7 rfl) ?_
      refine lv_aload_n hx hb dX7_bestGuess_80 rfl (lv_at hl 0 rfl) ?_
      refine gX7_7 X hJ (w := g.2.2.2) rfl dX7_bestGuess_81 ?_
      refine lv_iconst (v := 0) hx hb dX7_bestGuess_84 (by decide) ?_
      refine lv_iload_n hx hb dX7_bestGuess_85 rfl (lv_at hl 1 rfl) ?_
      refine kX7_31 X hJ (qX7_bridgeAt l E B _ 0 i) rfl hl.1 ⟨Nat.le_of_ble_eq_true rfl, Nat.le_of_ble_eq_true rfl⟩ ⟨Nat.le_refl _, Nat.le_refl _⟩ (rest := [.ref (B + 460), .int (nI p)]) rfl (Nat.le_of_ble_eq_true rfl) dX7_bestGuess_86 (fun H locs hJ => ?_)
      refine lv_iconst (v := 2) hx hb dX7_bestGuess_89 (by decide) ?_
      refine xiadd (z := nI (360 * 0 + (20 + 7 * i + 2))) hx hb dX7_bestGuess_90 (nI_a3 0 (20 + 7 * i) 2) ?_
      refine ld_s X hJ (t := 0) (w := w) (by omega) hw (j := 20 + 7 * i + 2) (rfl) (by omega) dX7_bestGuess_91 ?_
      refine lv_icmp_ge (tgt := 157) hx hb dX7_bestGuess_92 (by decide) (fun c_92 => ?_) (fun c_92 => ?_)
      · skip
        refine lv_iload hx hb dX7_bestGuess_157 (lv_at hl 3 rfl) ?_
        refine lv_if_ne (tgt := 167) hx hb dX7_bestGuess_159 (by decide) (fun c_159 => ?_) (fun c_159 => ?_)
        · skip
          refine lv_iload hx hb dX7_bestGuess_167 (lv_at hl 6 rfl) ?_
          have hs : sX7_bestGuess w x y z v = mo := hs.trans (by rw [bX7_bestGuess_78, if_pos c_92, if_neg c_159])
          exact fin hJ (by rw [hs]) dX7_bestGuess_169
        · skip
          refine lv_iload hx hb dX7_bestGuess_162 (lv_at hl 5 rfl) ?_
          refine lv_goto (tgt := 169) hx hb dX7_bestGuess_164 (by decide) ?_
          have hs : sX7_bestGuess w x y z v = be := hs.trans (by rw [bX7_bestGuess_78, if_pos c_92, if_pos c_159])
          exact fin hJ (by rw [hs]) dX7_bestGuess_169
      · skip
        have hp2 : p < 1000 := by have h1 := (hrn.2.2.1 i (by omega)).2.2; have := (not_congr (cnt_le (p := p) h1 (by omega))).mp c_92; have := h1.le; omega
        have hR := hrg q i (by omega) (by omega)
        refine lv_aload_n hx hb dX7_bestGuess_95 rfl (lv_at hl 0 rfl) ?_
        refine gX7_7 X hJ (w := g.2.2.2) rfl dX7_bestGuess_96 ?_
        refine lv_iload hx hb dX7_bestGuess_99 (lv_at hl 4 rfl) ?_
        refine ld_s X hJ (t := 0) (w := w) (by omega) hw (j := 168 + 2 * (12 * q + i)) (rfl) (by omega) dX7_bestGuess_101 ?_
        refine lv_aload_n hx hb dX7_bestGuess_102 rfl (lv_at hl 0 rfl) ?_
        refine gX7_7 X hJ (w := g.2.2.2) rfl dX7_bestGuess_103 ?_
        refine lv_iload hx hb dX7_bestGuess_106 (lv_at hl 4 rfl) ?_
        refine lv_iconst (v := 1) hx hb dX7_bestGuess_108 (by decide) ?_
        refine xiadd (z := nI (360 * 0 + (168 + 2 * (12 * q + i) + 1))) hx hb dX7_bestGuess_109 (nI_a3 0 (168 + 2 * (12 * q + i)) 1) ?_
        refine ld_s X hJ (t := 0) (w := w) (by omega) hw (j := 168 + 2 * (12 * q + i) + 1) (rfl) (by omega) dX7_bestGuess_110 ?_
        refine lv_iload hx hb dX7_bestGuess_111 (lv_at hl 7 rfl) ?_
        refine lv_iload_n hx hb dX7_bestGuess_113 rfl (lv_at hl 2 rfl) ?_
        refine kX7_177 X hJ (mX7_nearer l E B _ (w (168 + 2 * (12 * q + i))) (w (168 + 2 * (12 * q + i) + 1)) (nI p) z (hR.1) (hR.2)) rfl hl.1 ⟨Nat.le_of_ble_eq_true rfl, Nat.le_of_ble_eq_true rfl⟩ ⟨Nat.le_refl _, Nat.le_refl _⟩ (rest := []) rfl (Nat.le_of_ble_eq_true rfl) dX7_bestGuess_114 (fun H locs hJ => ?_)
        refine lv_istore (lv' := [(9, .int (sX7_nearer (w (168 + 2 * (12 * q + i))) (w (168 + 2 * (12 * q + i) + 1)) (nI p) z)), (0, .ref (B + 459)), (2, .int (nI i)), (3, .int z), (4, .int v), (5, .int (nI (360 * 0 + (168 + 2 * (12 * q + i))))), (6, .int be), (7, .int mo), (8, .int (nI p))]) hx hb dX7_bestGuess_117 hl (by decide) rfl (fun ls hl => ?_)
        refine lv_iload hx hb dX7_bestGuess_119 (lv_at hl 0 rfl) ?_
        refine lv_iload hx hb dX7_bestGuess_121 (lv_at hl 7 rfl) ?_
        refine lv_icmp_le (tgt := 131) hx hb dX7_bestGuess_123 (by decide) (fun c_123 => ?_) (fun c_123 => ?_)
        · skip
          refine lv_iload hx hb dX7_bestGuess_131 (lv_at hl 6 rfl) ?_
          refine lv_istore (lv' := [(6, .int be), (9, .int (sX7_nearer (w (168 + 2 * (12 * q + i))) (w (168 + 2 * (12 * q + i) + 1)) (nI p) z)), (0, .ref (B + 459)), (2, .int (nI i)), (3, .int z), (4, .int v), (5, .int (nI (360 * 0 + (168 + 2 * (12 * q + i))))), (7, .int mo), (8, .int (nI p))]) hx hb dX7_bestGuess_133 hl (by decide) rfl (fun ls hl => ?_)
          refine lv_iload hx hb dX7_bestGuess_135 (lv_at hl 1 rfl) ?_
          refine lv_iload hx hb dX7_bestGuess_137 (lv_at hl 7 rfl) ?_
          refine lv_icmp_le (tgt := 147) hx hb dX7_bestGuess_139 (by decide) (fun c_139 => ?_) (fun c_139 => ?_)
          · skip
            refine lv_iload hx hb dX7_bestGuess_147 (lv_at hl 7 rfl) ?_
            refine lv_istore (lv' := [(7, .int mo), (6, .int be), (9, .int (sX7_nearer (w (168 + 2 * (12 * q + i))) (w (168 + 2 * (12 * q + i) + 1)) (nI p) z)), (0, .ref (B + 459)), (2, .int (nI i)), (3, .int z), (4, .int v), (5, .int (nI (360 * 0 + (168 + 2 * (12 * q + i))))), (8, .int (nI p))]) hx hb dX7_bestGuess_149 hl (by decide) rfl (fun ls hl => ?_)
            refine lv_iinc (v := nI (p + 1)) (lv' := [(8, .int (nI (p + 1))), (7, .int mo), (6, .int be), (9, .int (sX7_nearer (w (168 + 2 * (12 * q + i))) (w (168 + 2 * (12 * q + i) + 1)) (nI p) z)), (0, .ref (B + 459)), (2, .int (nI i)), (3, .int z), (4, .int v), (5, .int (nI (360 * 0 + (168 + 2 * (12 * q + i)))))]) hx hb dX7_bestGuess_151 hl (k := 8) rfl (by first | exact nI_add _ _ | rfl) (by decide) rfl (fun ls hl => ?_)
            refine lv_goto (tgt := 78) hx hb dX7_bestGuess_154 (by decide) ?_
            have hs : sX7_bestGuess w x y z v = bX7_bestGuess_78 w x y z v n i q be mo (p + 1) := hs.trans (by rw [bX7_bestGuess_78, if_neg c_92, if_pos c_123, if_pos c_139])
            exact ih i q be mo (p + 1) (by omega) (hqi) (by omega) _ _ _ hJ (lv_sub hl [4, 5, 6, 7, 8, 2, 1, 0] rfl) hs
          · skip
            refine lv_iload hx hb dX7_bestGuess_142 (lv_at hl 1 rfl) ?_
            refine lv_goto (tgt := 149) hx hb dX7_bestGuess_144 (by decide) ?_
            refine lv_istore (lv' := [(7, .int (sX7_nearer (w (168 + 2 * (12 * q + i))) (w (168 + 2 * (12 * q + i) + 1)) (nI p) z)), (6, .int be), (9, .int (sX7_nearer (w (168 + 2 * (12 * q + i))) (w (168 + 2 * (12 * q + i) + 1)) (nI p) z)), (0, .ref (B + 459)), (2, .int (nI i)), (3, .int z), (4, .int v), (5, .int (nI (360 * 0 + (168 + 2 * (12 * q + i))))), (8, .int (nI p))]) hx hb dX7_bestGuess_149 hl (by decide) rfl (fun ls hl => ?_)
            refine lv_iinc (v := nI (p + 1)) (lv' := [(8, .int (nI (p + 1))), (7, .int (sX7_nearer (w (168 + 2 * (12 * q + i))) (w (168 + 2 * (12 * q + i) + 1)) (nI p) z)), (6, .int be), (9, .int (sX7_nearer (w (168 + 2 * (12 * q + i))) (w (168 + 2 * (12 * q + i) + 1)) (nI p) z)), (0, .ref (B + 459)), (2, .int (nI i)), (3, .int z), (4, .int v), (5, .int (nI (360 * 0 + (168 + 2 * (12 * q + i)))))]) hx hb dX7_bestGuess_151 hl (k := 8) rfl (by first | exact nI_add _ _ | rfl) (by decide) rfl (fun ls hl => ?_)
            refine lv_goto (tgt := 78) hx hb dX7_bestGuess_154 (by decide) ?_
            have hs : sX7_bestGuess w x y z v = bX7_bestGuess_78 w x y z v n i q be (sX7_nearer (w (168 + 2 * (12 * q + i))) (w (168 + 2 * (12 * q + i) + 1)) (nI p) z) (p + 1) := hs.trans (by rw [bX7_bestGuess_78, if_neg c_92, if_pos c_123, if_neg c_139])
            exact ih i q be (sX7_nearer (w (168 + 2 * (12 * q + i))) (w (168 + 2 * (12 * q + i) + 1)) (nI p) z) (p + 1) (by omega) (hqi) (by omega) _ _ _ hJ (lv_sub hl [4, 5, 6, 7, 8, 2, 1, 0] rfl) hs
        · skip
          refine lv_iload hx hb dX7_bestGuess_126 (lv_at hl 8 rfl) ?_
          refine lv_goto (tgt := 133) hx hb dX7_bestGuess_128 (by decide) ?_
          refine lv_istore (lv' := [(6, .int (nI p)), (9, .int (sX7_nearer (w (168 + 2 * (12 * q + i))) (w (168 + 2 * (12 * q + i) + 1)) (nI p) z)), (0, .ref (B + 459)), (2, .int (nI i)), (3, .int z), (4, .int v), (5, .int (nI (360 * 0 + (168 + 2 * (12 * q + i))))), (7, .int mo), (8, .int (nI p))]) hx hb dX7_bestGuess_133 hl (by decide) rfl (fun ls hl => ?_)
          refine lv_iload hx hb dX7_bestGuess_135 (lv_at hl 1 rfl) ?_
          refine lv_iload hx hb dX7_bestGuess_137 (lv_at hl 7 rfl) ?_
          refine lv_icmp_le (tgt := 147) hx hb dX7_bestGuess_139 (by decide) (fun c_139 => ?_) (fun c_139 => ?_)
          · skip
            refine lv_iload hx hb dX7_bestGuess_147 (lv_at hl 7 rfl) ?_
            refine lv_istore (lv' := [(7, .int mo), (6, .int (nI p)), (9, .int (sX7_nearer (w (168 + 2 * (12 * q + i))) (w (168 + 2 * (12 * q + i) + 1)) (nI p) z)), (0, .ref (B + 459)), (2, .int (nI i)), (3, .int z), (4, .int v), (5, .int (nI (360 * 0 + (168 + 2 * (12 * q + i))))), (8, .int (nI p))]) hx hb dX7_bestGuess_149 hl (by decide) rfl (fun ls hl => ?_)
            refine lv_iinc (v := nI (p + 1)) (lv' := [(8, .int (nI (p + 1))), (7, .int mo), (6, .int (nI p)), (9, .int (sX7_nearer (w (168 + 2 * (12 * q + i))) (w (168 + 2 * (12 * q + i) + 1)) (nI p) z)), (0, .ref (B + 459)), (2, .int (nI i)), (3, .int z), (4, .int v), (5, .int (nI (360 * 0 + (168 + 2 * (12 * q + i)))))]) hx hb dX7_bestGuess_151 hl (k := 8) rfl (by first | exact nI_add _ _ | rfl) (by decide) rfl (fun ls hl => ?_)
            refine lv_goto (tgt := 78) hx hb dX7_bestGuess_154 (by decide) ?_
            have hs : sX7_bestGuess w x y z v = bX7_bestGuess_78 w x y z v n i q (nI p) mo (p + 1) := hs.trans (by rw [bX7_bestGuess_78, if_neg c_92, if_neg c_123, if_pos c_139])
            exact ih i q (nI p) mo (p + 1) (by omega) (hqi) (by omega) _ _ _ hJ (lv_sub hl [4, 5, 6, 7, 8, 2, 1, 0] rfl) hs
          · skip
            refine lv_iload hx hb dX7_bestGuess_142 (lv_at hl 1 rfl) ?_
            refine lv_goto (tgt := 149) hx hb dX7_bestGuess_144 (by decide) ?_
            refine lv_istore (lv' := [(7, .int (sX7_nearer (w (168 + 2 * (12 * q + i))) (w (168 + 2 * (12 * q + i) + 1)) (nI p) z)), (6, .int (nI p)), (9, .int (sX7_nearer (w (168 + 2 * (12 * q + i))) (w (168 + 2 * (12 * q + i) + 1)) (nI p) z)), (0, .ref (B + 459)), (2, .int (nI i)), (3, .int z), (4, .int v), (5, .int (nI (360 * 0 + (168 + 2 * (12 * q + i))))), (8, .int (nI p))]) hx hb dX7_bestGuess_149 hl (by decide) rfl (fun ls hl => ?_)
            refine lv_iinc (v := nI (p + 1)) (lv' := [(8, .int (nI (p + 1))), (7, .int (sX7_nearer (w (168 + 2 * (12 * q + i))) (w (168 + 2 * (12 * q + i) + 1)) (nI p) z)), (6, .int (nI p)), (9, .int (sX7_nearer (w (168 + 2 * (12 * q + i))) (w (168 + 2 * (12 * q + i) + 1)) (nI p) z)), (0, .ref (B + 459)), (2, .int (nI i)), (3, .int z), (4, .int v), (5, .int (nI (360 * 0 + (168 + 2 * (12 * q + i)))))]) hx hb dX7_bestGuess_151 hl (k := 8) rfl (by first | exact nI_add _ _ | rfl) (by decide) rfl (fun ls hl => ?_)
            refine lv_goto (tgt := 78) hx hb dX7_bestGuess_154 (by decide) ?_
            have hs : sX7_bestGuess w x y z v = bX7_bestGuess_78 w x y z v n i q (nI p) (sX7_nearer (w (168 + 2 * (12 * q + i))) (w (168 + 2 * (12 * q + i) + 1)) (nI p) z) (p + 1) := hs.trans (by rw [bX7_bestGuess_78, if_neg c_92, if_neg c_123, if_neg c_139])
            exact ih i q (nI p) (sX7_nearer (w (168 + 2 * (12 * q + i))) (w (168 + 2 * (12 * q + i) + 1)) (nI p) z) (p + 1) (by omega) (hqi) (by omega) _ _ _ hJ (lv_sub hl [4, 5, 6, 7, 8, 2, 1, 0] rfl) hs
  refine lv_aload_n hx hb dX7_bestGuess_0 rfl (lv_at hl 0 rfl) ?_
  refine lv_iload_n hx hb dX7_bestGuess_1 rfl (lv_at hl 1 rfl) ?_
  refine kX7_95 X hJ (mX7_isCart l E B _ x w hw) rfl (by omega) (at_M rfl) hl.1 ⟨Nat.le_of_ble_eq_true rfl, Nat.le_of_ble_eq_true rfl⟩ ⟨Nat.le_refl _, Nat.le_refl _⟩ (rest := []) rfl (Nat.le_of_ble_eq_true rfl) dX7_bestGuess_2 (fun H locs hJ => ?_)
  refine lv_if_eq (tgt := 16) hx hb dX7_bestGuess_5 (by decide) (fun c_5 => ?_) (fun c_5 => ?_)
  · skip
    refine lv_iconst (v := (-1)) hx hb dX7_bestGuess_16 (by decide) ?_
    have hs : sX7_bestGuess w x y z v = (-1) := by unfold sX7_bestGuess; rw [if_pos c_5]
    exact fin hJ (by rw [hs]) dX7_bestGuess_17
  · skip
    refine lv_aload_n hx hb dX7_bestGuess_8 rfl (lv_at hl 0 rfl) ?_
    refine lv_iload_n hx hb dX7_bestGuess_9 rfl (lv_at hl 2 rfl) ?_
    refine kX7_98 X hJ (mX7_isBridge l E B _ y w hw) rfl (by omega) (at_M rfl) hl.1 ⟨Nat.le_of_ble_eq_true rfl, Nat.le_of_ble_eq_true rfl⟩ ⟨Nat.le_refl _, Nat.le_refl _⟩ (rest := []) rfl (Nat.le_of_ble_eq_true rfl) dX7_bestGuess_10 (fun H locs hJ => ?_)
    refine lv_if_ne (tgt := 18) hx hb dX7_bestGuess_13 (by decide) (fun c_13 => ?_) (fun c_13 => ?_)
    · skip
      have hC_x := (isCart_of hrn.1 c_5).2.2
      have hB_y := (isBridge_of hrn.1 c_13).2.2
      have hR := hrg _ _ hC_x hB_y
      have hl : lv_has ls 10 [(0, .ref (B + 459)), (1, .int (nI (nn x))), (2, .int y), (3, .int z), (4, .int v)] := by rw [← show x = nI (nn x) from (isCart_of hrn.1 c_5).1]; exact hl
      have hl : lv_has ls 10 [(0, .ref (B + 459)), (1, .int (nI (nn x))), (2, .int (nI (nn y))), (3, .int z), (4, .int v)] := by rw [← show y = nI (nn y) from (isBridge_of hrn.1 c_13).1]; exact hl
      refine lv_aload_n hx hb dX7_bestGuess_18 rfl (lv_at hl 0 rfl) ?_
      refine lv_iload_n hx hb dX7_bestGuess_19 rfl (lv_at hl 2 rfl) ?_
      refine lv_iload_n hx hb dX7_bestGuess_20 rfl (lv_at hl 3 rfl) ?_
      refine kX7_101 X hJ (mX7_isNumber l E B _ (nn y) z w (by omega) hw) rfl (by omega) (at_M rfl) hl.1 ⟨Nat.le_of_ble_eq_true rfl, Nat.le_of_ble_eq_true rfl⟩ ⟨Nat.le_refl _, Nat.le_refl _⟩ (rest := []) rfl (Nat.le_of_ble_eq_true rfl) dX7_bestGuess_21 (fun H locs hJ => ?_)
      refine lv_if_eq (tgt := 38) hx hb dX7_bestGuess_24 (by decide) (fun c_24 => ?_) (fun c_24 => ?_)
      · skip
        refine lv_bipush (v := (-2)) hx hb dX7_bestGuess_38 (by decide) ?_
        have hs : sX7_bestGuess w x y z v = (-2) := by unfold sX7_bestGuess; rw [if_neg c_5, if_neg c_13, if_pos c_24]
        exact fin hJ (by rw [hs]) dX7_bestGuess_40
      · skip
        refine lv_iload hx hb dX7_bestGuess_27 (lv_at hl 4 rfl) ?_
        refine lv_i2l hx hb dX7_bestGuess_29 rfl ?_
        refine lv_lconst (v := 0) hx hb dX7_bestGuess_30 (by decide) ?_
        refine lv_lconst (v := 1) hx hb dX7_bestGuess_31 (by decide) ?_
        refine kX7_81 X hJ (mX7_in l E B _ v.toInt64 0 1) rfl hl.1 ⟨Nat.le_of_ble_eq_true rfl, Nat.le_of_ble_eq_true rfl⟩ ⟨Nat.le_refl _, Nat.le_refl _⟩ (rest := []) rfl (Nat.le_of_ble_eq_true rfl) dX7_bestGuess_32 (fun H locs hJ => ?_)
        refine lv_if_ne (tgt := 41) hx hb dX7_bestGuess_35 (by decide) (fun c_35 => ?_) (fun c_35 => ?_)
        · skip
          refine lv_iconst (v := 0) hx hb dX7_bestGuess_41 (by decide) ?_
          refine lv_iload_n hx hb dX7_bestGuess_42 rfl (lv_at hl 1 rfl) ?_
          refine lv_iload_n hx hb dX7_bestGuess_43 rfl (lv_at hl 2 rfl) ?_
          refine kX7_36 X hJ (qX7_rangeAt l E B _ 0 (nn x) (nn y)) rfl hl.1 ⟨Nat.le_of_ble_eq_true rfl, Nat.le_of_ble_eq_true rfl⟩ ⟨Nat.le_refl _, Nat.le_refl _⟩ (rest := []) rfl (Nat.le_of_ble_eq_true rfl) dX7_bestGuess_44 (fun H locs hJ => ?_)
          refine lv_istore (lv' := [(5, .int (nI (360 * 0 + (168 + 2 * (12 * (nn x) + (nn y)))))), (0, .ref (B + 459)), (1, .int (nI (nn x))), (2, .int (nI (nn y))), (3, .int z), (4, .int v)]) hx hb dX7_bestGuess_47 hl (by decide) rfl (fun ls hl => ?_)
          refine lv_iconst (v := 0) hx hb dX7_bestGuess_49 (by decide) ?_
          refine lv_istore (lv' := [(6, .int 0), (5, .int (nI (360 * 0 + (168 + 2 * (12 * (nn x) + (nn y)))))), (0, .ref (B + 459)), (1, .int (nI (nn x))), (2, .int (nI (nn y))), (3, .int z), (4, .int v)]) hx hb dX7_bestGuess_50 hl (by decide) rfl (fun ls hl => ?_)
          refine lv_aload_n hx hb dX7_bestGuess_52 rfl (lv_at hl 2 rfl) ?_
          refine gX7_7 X hJ (w := g.2.2.2) rfl dX7_bestGuess_53 ?_
          refine lv_iload hx hb dX7_bestGuess_56 (lv_at hl 1 rfl) ?_
          refine ld_s X hJ (t := 0) (w := w) (by omega) hw (j := 168 + 2 * (12 * (nn x) + (nn y))) (rfl) (by omega) dX7_bestGuess_58 ?_
          refine lv_aload_n hx hb dX7_bestGuess_59 rfl (lv_at hl 2 rfl) ?_
          refine gX7_7 X hJ (w := g.2.2.2) rfl dX7_bestGuess_60 ?_
          refine lv_iload hx hb dX7_bestGuess_63 (lv_at hl 1 rfl) ?_
          refine lv_iconst (v := 1) hx hb dX7_bestGuess_65 (by decide) ?_
          refine xiadd (z := nI (360 * 0 + (168 + 2 * (12 * (nn x) + (nn y)) + 1))) hx hb dX7_bestGuess_66 (nI_a3 0 (168 + 2 * (12 * (nn x) + (nn y))) 1) ?_
          refine ld_s X hJ (t := 0) (w := w) (by omega) hw (j := 168 + 2 * (12 * (nn x) + (nn y)) + 1) (rfl) (by omega) dX7_bestGuess_67 ?_
          refine lv_iconst (v := 0) hx hb dX7_bestGuess_68 (by decide) ?_
          refine lv_iload_n hx hb dX7_bestGuess_69 rfl (lv_at hl 5 rfl) ?_
          refine kX7_177 X hJ (mX7_nearer l E B _ (w (168 + 2 * (12 * (nn x) + (nn y)))) (w (168 + 2 * (12 * (nn x) + (nn y)) + 1)) 0 z (hR.1) (hR.2)) rfl hl.1 ⟨Nat.le_of_ble_eq_true rfl, Nat.le_of_ble_eq_true rfl⟩ ⟨Nat.le_refl _, Nat.le_refl _⟩ (rest := []) rfl (Nat.le_of_ble_eq_true rfl) dX7_bestGuess_70 (fun H locs hJ => ?_)
          refine lv_istore (lv' := [(7, .int (sX7_nearer (w (168 + 2 * (12 * (nn x) + (nn y)))) (w (168 + 2 * (12 * (nn x) + (nn y)) + 1)) 0 z)), (6, .int 0), (5, .int (nI (360 * 0 + (168 + 2 * (12 * (nn x) + (nn y)))))), (0, .ref (B + 459)), (1, .int (nI (nn x))), (2, .int (nI (nn y))), (3, .int z), (4, .int v)]) hx hb dX7_bestGuess_73 hl (by decide) rfl (fun ls hl => ?_)
          refine lv_iconst (v := 1) hx hb dX7_bestGuess_75 (by decide) ?_
          refine lv_istore (lv' := [(8, .int 1), (7, .int (sX7_nearer (w (168 + 2 * (12 * (nn x) + (nn y)))) (w (168 + 2 * (12 * (nn x) + (nn y)) + 1)) 0 z)), (6, .int 0), (5, .int (nI (360 * 0 + (168 + 2 * (12 * (nn x) + (nn y)))))), (0, .ref (B + 459)), (1, .int (nI (nn x))), (2, .int (nI (nn y))), (3, .int z), (4, .int v)]) hx hb dX7_bestGuess_76 hl (by decide) rfl (fun ls hl => ?_)
          have hs : sX7_bestGuess w x y z v = bX7_bestGuess_78 w x y z v 1001 (nn y) (nn x) 0 (sX7_nearer (w (168 + 2 * (12 * (nn x) + (nn y)))) (w (168 + 2 * (12 * (nn x) + (nn y)) + 1)) 0 z) 1 := by unfold sX7_bestGuess; rw [if_neg c_5, if_neg c_13, if_neg c_24, if_neg c_35]
          exact bk_78 1001 (nn y) (nn x) 0 (sX7_nearer (w (168 + 2 * (12 * (nn x) + (nn y)))) (w (168 + 2 * (12 * (nn x) + (nn y)) + 1)) 0 z) 1 (by omega) (by omega) (by omega) _ _ _ hJ (lv_sub hl [4, 6, 7, 8, 3, 2, 1, 0] rfl) hs
        · skip
          refine lv_bipush (v := (-2)) hx hb dX7_bestGuess_38 (by decide) ?_
          have hs : sX7_bestGuess w x y z v = (-2) := by unfold sX7_bestGuess; rw [if_neg c_5, if_neg c_13, if_neg c_24, if_pos c_35]
          exact fin hJ (by rw [hs]) dX7_bestGuess_40
    · skip
      refine lv_iconst (v := (-1)) hx hb dX7_bestGuess_16 (by decide) ?_
      have hs : sX7_bestGuess w x y z v = (-1) := by unfold sX7_bestGuess; rw [if_neg c_5, if_pos c_13]
      exact fin hJ (by rw [hs]) dX7_bestGuess_17

