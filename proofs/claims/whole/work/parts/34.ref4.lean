def bX7_ofCarts_5 (w : Row) (f : Nat) : Nat → Int32 → Nat → Int32
  | 0, _, _ => 0
  | n + 1, a, p => if w (6) ≤ nI p then (a) else (bX7_ofCarts_5 w f n (a + (w (104 + 8 * p + f))) (p + 1))
def sX7_ofCarts (w : Row) (f : Nat) : Int32 := bX7_ofCarts_5 w f 9 0 0
set_option maxHeartbeats 4000000 in
set_option maxRecDepth 100000 in
theorem mX7_ofCarts (l : Launch) (E : EE) (B : Nat) (g : GS) (t : Nat) (f : Nat) (w : Row) (ht : t < 10)  (hw : g.2.2.1 t = w) (hrn : Rn w) (hf : f < 8) : CG l yX7_ofCarts cX7_ofCarts 5 (some .int) 1 21 E B [.ref (B + 459), .int (nI (360 * t)), .int (nI f)] g (some (.int (sX7_ofCarts w f))) g := by
  refine mkI (own := RX7) (ty := .int) rfl (by decide) rfl (rfl) (Nat.le_of_ble_eq_true rfl) (fun P_ e_ s_ m_ a_ below meth cd Q X fin ls hl hJ => ?_)
  have hx := X.1
  have hb := X.2.1
  have hl : lv_has ls 5 [(0, .ref (B + 459)), (1, .int (nI (360 * t))), (2, .int (nI f))] := hl
  have bk_5 : ∀ (n : Nat) (a : Int32)  (p : Nat), 8 - p < n → (p ≤ 8) → ∀ (H : Heap) (locs : List Loc) (ls : Array Slot), JG E B s_ (g) H locs → lv_has ls 5 [(0, .ref (B + 459)), (1, .int (nI (360 * t))), (2, .int (nI f)), (3, .int a), (4, .int (nI p))] → sX7_ofCarts w f = bX7_ofCarts_5 w f n a p → W P_ l e_ (rmm 1 21 0 0) s_ m_ a_ below meth cd H locs 0 0 Q (F0 m_ 5 ls []) := by
    intro n
    induction n with
    | zero => intro a p hm; exact absurd hm (Nat.not_lt_zero _)
    | succ n ih =>
      intro a p hm hp H locs ls hJ hl hs
      refine lv_iload hx hb dX7_ofCarts_5 (lv_at hl 4 rfl) ?_
      refine lv_aload_n hx hb dX7_ofCarts_7 rfl (lv_at hl 0 rfl) ?_
      refine gX7_7 X hJ (w := g.2.2.2) rfl dX7_ofCarts_8 ?_
      refine lv_iload_n hx hb dX7_ofCarts_11 rfl (lv_at hl 1 rfl) ?_
      refine lv_bipush (v := 6) hx hb dX7_ofCarts_12 (by decide) ?_
      refine xiadd (z := nI (360 * t + (6))) hx hb dX7_ofCarts_14 (nI_add (360 * t) 6) ?_
      refine ld_s X hJ (t := t) (w := w) (by omega) hw (j := 6) (rfl) (by omega) dX7_ofCarts_15 ?_
      refine lv_icmp_ge (tgt := 41) hx hb dX7_ofCarts_16 (by decide) (fun c_16 => ?_) (fun c_16 => ?_)
      · skip
        refine lv_iload_n hx hb dX7_ofCarts_41 rfl (lv_at hl 3 rfl) ?_
        have hs : sX7_ofCarts w f = a := hs.trans (by rw [bX7_ofCarts_5, if_pos c_16])
        exact fin hJ (by rw [hs]) dX7_ofCarts_42
      · skip
        have hp2 := hrn.1.lt6 (by omega) c_16
        refine lv_iload_n hx hb dX7_ofCarts_19 rfl (lv_at hl 3 rfl) ?_
        refine lv_aload_n hx hb dX7_ofCarts_20 rfl (lv_at hl 0 rfl) ?_
        refine gX7_7 X hJ (w := g.2.2.2) rfl dX7_ofCarts_21 ?_
        refine lv_iload_n hx hb dX7_ofCarts_24 rfl (lv_at hl 1 rfl) ?_
        refine lv_iload hx hb dX7_ofCarts_25 (lv_at hl 4 rfl) ?_
        refine kX7_40 X hJ (qX7_cartAt l E B _ t p) rfl hl.1 ⟨Nat.le_of_ble_eq_true rfl, Nat.le_of_ble_eq_true rfl⟩ ⟨Nat.le_refl _, Nat.le_refl _⟩ (rest := [.ref (B + 460), .int a]) rfl (Nat.le_of_ble_eq_true rfl) dX7_ofCarts_27 (fun H locs hJ => ?_)
        refine lv_iload_n hx hb dX7_ofCarts_30 rfl (lv_at hl 2 rfl) ?_
        refine xiadd (z := nI (360 * t + (104 + 8 * p + f))) hx hb dX7_ofCarts_31 (nI_a3 t (104 + 8 * p) f) ?_
        refine ld_s X hJ (t := t) (w := w) (by omega) hw (j := 104 + 8 * p + f) (rfl) (by omega) dX7_ofCarts_32 ?_
        refine lv_iadd hx hb dX7_ofCarts_33 ?_
        refine lv_istore_n (lv' := [(3, .int (a + (w (104 + 8 * p + f)))), (0, .ref (B + 459)), (1, .int (nI (360 * t))), (2, .int (nI f)), (4, .int (nI p))]) hx hb dX7_ofCarts_34 rfl hl (by decide) rfl (fun ls hl => ?_)
        refine lv_iinc (v := nI (p + 1)) (lv' := [(4, .int (nI (p + 1))), (3, .int (a + (w (104 + 8 * p + f)))), (0, .ref (B + 459)), (1, .int (nI (360 * t))), (2, .int (nI f))]) hx hb dX7_ofCarts_35 hl (k := 4) rfl (by first | exact nI_add _ _ | rfl) (by decide) rfl (fun ls hl => ?_)
        refine lv_goto (tgt := 5) hx hb dX7_ofCarts_38 (by decide) ?_
        have hs : sX7_ofCarts w f = bX7_ofCarts_5 w f n (a + (w (104 + 8 * p + f))) (p + 1) := hs.trans (by rw [bX7_ofCarts_5, if_neg c_16])
        exact ih (a + (w (104 + 8 * p + f))) (p + 1) (by omega) (by omega) _ _ _ hJ (lv_sub hl [2, 3, 4, 1, 0] rfl) hs
  refine lv_iconst (v := 0) hx hb dX7_ofCarts_0 (by decide) ?_
  refine lv_istore_n (lv' := [(3, .int 0), (0, .ref (B + 459)), (1, .int (nI (360 * t))), (2, .int (nI f))]) hx hb dX7_ofCarts_1 rfl hl (by decide) rfl (fun ls hl => ?_)
  refine lv_iconst (v := 0) hx hb dX7_ofCarts_2 (by decide) ?_
  refine lv_istore (lv' := [(4, .int 0), (3, .int 0), (0, .ref (B + 459)), (1, .int (nI (360 * t))), (2, .int (nI f))]) hx hb dX7_ofCarts_3 hl (by decide) rfl (fun ls hl => ?_)
  have hs : sX7_ofCarts w f = bX7_ofCarts_5 w f 9 0 0 := by unfold sX7_ofCarts; rfl
  exact bk_5 9 0 0 (by omega) (by omega) _ _ _ hJ (lv_sub hl [2, 3, 4, 1, 0] rfl) hs

def bX7_waitingSet_4 (w : Row) : Nat → Int32 → Nat → Int32
  | 0, _, _ => 0
  | n + 1, a, p => if w (10) ≤ nI p then (a) else (bX7_waitingSet_4 w n (a ||| (1 <<< ((w (12 + p)) &&& 31))) (p + 1))
def sX7_waitingSet (w : Row) : Int32 := bX7_waitingSet_4 w 9 0 0
set_option maxHeartbeats 4000000 in
set_option maxRecDepth 100000 in
theorem mX7_waitingSet (l : Launch) (E : EE) (B : Nat) (g : GS) (t : Nat)  (w : Row) (ht : t < 10)  (hw : g.2.2.1 t = w) (hrn : Rn w) : CG l yX7_waitingSet cX7_waitingSet 4 (some .int) 0 0 E B [.ref (B + 459), .int (nI (360 * t))] g (some (.int (sX7_waitingSet w))) g := by
  refine mkI (own := RX7) (ty := .int) rfl (by decide) rfl (rfl) (Nat.le_of_ble_eq_true rfl) (fun P_ e_ s_ m_ a_ below meth cd Q X fin ls hl hJ => ?_)
  have hx := X.1
  have hb := X.2.1
  have hl : lv_has ls 4 [(0, .ref (B + 459)), (1, .int (nI (360 * t)))] := hl
  have bk_4 : ∀ (n : Nat) (a : Int32)  (p : Nat), 8 - p < n → (p ≤ 8) → ∀ (H : Heap) (locs : List Loc) (ls : Array Slot), JG E B s_ (g) H locs → lv_has ls 4 [(0, .ref (B + 459)), (1, .int (nI (360 * t))), (2, .int a), (3, .int (nI p))] → sX7_waitingSet w = bX7_waitingSet_4 w n a p → W P_ l e_ (rmm 0 0 0 0) s_ m_ a_ below meth cd H locs 0 0 Q (F0 m_ 4 ls []) := by
    intro n
    induction n with
    | zero => intro a p hm; exact absurd hm (Nat.not_lt_zero _)
    | succ n ih =>
      intro a p hm hp H locs ls hJ hl hs
      refine lv_iload_n hx hb dX7_waitingSet_4 rfl (lv_at hl 3 rfl) ?_
      refine lv_aload_n hx hb dX7_waitingSet_5 rfl (lv_at hl 0 rfl) ?_
      refine gX7_7 X hJ (w := g.2.2.2) rfl dX7_waitingSet_6 ?_
      refine lv_iload_n hx hb dX7_waitingSet_9 rfl (lv_at hl 1 rfl) ?_
      refine lv_bipush (v := 10) hx hb dX7_waitingSet_10 (by decide) ?_
      refine xiadd (z := nI (360 * t + (10))) hx hb dX7_waitingSet_12 (nI_add (360 * t) 10) ?_
      refine ld_s X hJ (t := t) (w := w) (by omega) hw (j := 10) (rfl) (by omega) dX7_waitingSet_13 ?_
      refine lv_icmp_ge (tgt := 39) hx hb dX7_waitingSet_14 (by decide) (fun c_14 => ?_) (fun c_14 => ?_)
      · skip
        refine lv_iload_n hx hb dX7_waitingSet_39 rfl (lv_at hl 2 rfl) ?_
        have hs : sX7_waitingSet w = a := hs.trans (by rw [bX7_waitingSet_4, if_pos c_14])
        exact fin hJ (by rw [hs]) dX7_waitingSet_40
      · skip
        have hp2 := hrn.1.lt10 (by omega) c_14
        refine lv_iload_n hx hb dX7_waitingSet_17 rfl (lv_at hl 2 rfl) ?_
        refine lv_iconst (v := 1) hx hb dX7_waitingSet_18 (by decide) ?_
        refine lv_aload_n hx hb dX7_waitingSet_19 rfl (lv_at hl 0 rfl) ?_
        refine gX7_7 X hJ (w := g.2.2.2) rfl dX7_waitingSet_20 ?_
        refine lv_iload_n hx hb dX7_waitingSet_23 rfl (lv_at hl 1 rfl) ?_
        refine lv_bipush (v := 12) hx hb dX7_waitingSet_24 (by decide) ?_
        refine xiadd (z := nI (360 * t + (12))) hx hb dX7_waitingSet_26 (nI_add (360 * t) 12) ?_
        refine lv_iload_n hx hb dX7_waitingSet_27 rfl (lv_at hl 3 rfl) ?_
        refine xiadd (z := nI (360 * t + (12 + p))) hx hb dX7_waitingSet_28 (nI_a3 t 12 p) ?_
        refine ld_s X hJ (t := t) (w := w) (by omega) hw (j := 12 + p) (rfl) (by omega) dX7_waitingSet_29 ?_
        refine lv_ishl hx hb dX7_waitingSet_30 ?_
        refine lv_ior hx hb dX7_waitingSet_31 ?_
        refine lv_istore_n (lv' := [(2, .int (a ||| (1 <<< ((w (12 + p)) &&& 31)))), (0, .ref (B + 459)), (1, .int (nI (360 * t))), (3, .int (nI p))]) hx hb dX7_waitingSet_32 rfl hl (by decide) rfl (fun ls hl => ?_)
        refine lv_iinc (v := nI (p + 1)) (lv' := [(3, .int (nI (p + 1))), (2, .int (a ||| (1 <<< ((w (12 + p)) &&& 31)))), (0, .ref (B + 459)), (1, .int (nI (360 * t)))]) hx hb dX7_waitingSet_33 hl (k := 3) rfl (by first | exact nI_add _ _ | rfl) (by decide) rfl (fun ls hl => ?_)
        refine lv_goto (tgt := 4) hx hb dX7_waitingSet_36 (by decide) ?_
        have hs : sX7_waitingSet w = bX7_waitingSet_4 w n (a ||| (1 <<< ((w (12 + p)) &&& 31))) (p + 1) := hs.trans (by rw [bX7_waitingSet_4, if_neg c_14])
        exact ih (a ||| (1 <<< ((w (12 + p)) &&& 31))) (p + 1) (by omega) (by omega) _ _ _ hJ (lv_sub hl [2, 3, 1, 0] rfl) hs
  refine lv_iconst (v := 0) hx hb dX7_waitingSet_0 (by decide) ?_
  refine lv_istore_n (lv' := [(2, .int 0), (0, .ref (B + 459)), (1, .int (nI (360 * t)))]) hx hb dX7_waitingSet_1 rfl hl (by decide) rfl (fun ls hl => ?_)
  refine lv_iconst (v := 0) hx hb dX7_waitingSet_2 (by decide) ?_
  refine lv_istore_n (lv' := [(3, .int 0), (2, .int 0), (0, .ref (B + 459)), (1, .int (nI (360 * t)))]) hx hb dX7_waitingSet_3 rfl hl (by decide) rfl (fun ls hl => ?_)
  have hs : sX7_waitingSet w = bX7_waitingSet_4 w 9 0 0 := by unfold sX7_waitingSet; rfl
  exact bk_4 9 0 0 (by omega) (by omega) _ _ _ hJ (lv_sub hl [2, 3, 1, 0] rfl) hs

def bX7_inTills_4 (w : Row) : Nat → Int32 → Nat → Int32
  | 0, _, _ => 0
  | n + 1, a, p => if w (5) ≤ nI p then (a) else (bX7_inTills_4 w n (a + (w (20 + 7 * p + 4))) (p + 1))
def sX7_inTills (w : Row) : Int32 := bX7_inTills_4 w 13 0 0
set_option maxHeartbeats 4000000 in
set_option maxRecDepth 100000 in
theorem mX7_inTills (l : Launch) (E : EE) (B : Nat) (g : GS)  (w : Row)  (hw : g.2.2.1 0 = w) (hrn : Rn w) : CG l yX7_inTills cX7_inTills 3 (some .int) 1 21 E B [.ref (B + 459)] g (some (.int (sX7_inTills w))) g := by
  refine mkI (own := RX7) (ty := .int) rfl (by decide) rfl (rfl) (Nat.le_of_ble_eq_true rfl) (fun P_ e_ s_ m_ a_ below meth cd Q X fin ls hl hJ => ?_)
  have hx := X.1
  have hb := X.2.1
  have hl : lv_has ls 3 [(0, .ref (B + 459))] := hl
  have bk_4 : ∀ (n : Nat) (a : Int32)  (p : Nat), 12 - p < n → (p ≤ 12) → ∀ (H : Heap) (locs : List Loc) (ls : Array Slot), JG E B s_ (g) H locs → lv_has ls 3 [(0, .ref (B + 459)), (1, .int a), (2, .int (nI p))] → sX7_inTills w = bX7_inTills_4 w n a p → W P_ l e_ (rmm 1 21 0 0) s_ m_ a_ below meth cd H locs 0 0 Q (F0 m_ 4 ls []) := by
    intro n
    induction n with
    | zero => intro a p hm; exact absurd hm (Nat.not_lt_zero _)
    | succ n ih =>
      intro a p hm hp H locs ls hJ hl hs
      refine lv_iload_n hx hb dX7_inTills_4 rfl (lv_at hl 2 rfl) ?_
      refine lv_aload_n hx hb dX7_inTills_5 rfl (lv_at hl 0 rfl) ?_
      refine gX7_7 X hJ (w := g.2.2.2) rfl dX7_inTills_6 ?_
      refine lv_iconst (v := 5) hx hb dX7_inTills_9 (by decide) ?_
      refine ld_s X hJ (t := 0) (w := w) (by omega) hw (j := 5) (by decide) (by omega) dX7_inTills_10 ?_
      refine lv_icmp_ge (tgt := 35) hx hb dX7_inTills_11 (by decide) (fun c_11 => ?_) (fun c_11 => ?_)
      · skip
        refine lv_iload_n hx hb dX7_inTills_35 rfl (lv_at hl 1 rfl) ?_
        have hs : sX7_inTills w = a := hs.trans (by rw [bX7_inTills_4, if_pos c_11])
        exact fin hJ (by rw [hs]) dX7_inTills_36
      · skip
        have hp2 := hrn.1.lt5 (by omega) c_11
        refine lv_iload_n hx hb dX7_inTills_14 rfl (lv_at hl 1 rfl) ?_
        refine lv_aload_n hx hb dX7_inTills_15 rfl (lv_at hl 0 rfl) ?_
        refine gX7_7 X hJ (w := g.2.2.2) rfl dX7_inTills_16 ?_
        refine lv_iconst (v := 0) hx hb dX7_inTills_19 (by decide) ?_
        refine lv_iload_n hx hb dX7_inTills_20 rfl (lv_at hl 2 rfl) ?_
        refine kX7_31 X hJ (qX7_bridgeAt l E B _ 0 p) rfl hl.1 ⟨Nat.le_of_ble_eq_true rfl, Nat.le_of_ble_eq_true rfl⟩ ⟨Nat.le_refl _, Nat.le_refl _⟩ (rest := [.ref (B + 460), .int a]) rfl (Nat.le_of_ble_eq_true rfl) dX7_inTills_21 (fun H locs hJ => ?_)
        refine lv_iconst (v := 4) hx hb dX7_inTills_24 (by decide) ?_
        refine xiadd (z := nI (360 * 0 + (20 + 7 * p + 4))) hx hb dX7_inTills_25 (nI_a3 0 (20 + 7 * p) 4) ?_
        refine ld_s X hJ (t := 0) (w := w) (by omega) hw (j := 20 + 7 * p + 4) (rfl) (by omega) dX7_inTills_26 ?_
        refine lv_iadd hx hb dX7_inTills_27 ?_
        refine lv_istore_n (lv' := [(1, .int (a + (w (20 + 7 * p + 4)))), (0, .ref (B + 459)), (2, .int (nI p))]) hx hb dX7_inTills_28 rfl hl (by decide) rfl (fun ls hl => ?_)
        refine lv_iinc (v := nI (p + 1)) (lv' := [(2, .int (nI (p + 1))), (1, .int (a + (w (20 + 7 * p + 4)))), (0, .ref (B + 459))]) hx hb dX7_inTills_29 hl (k := 2) rfl (by first | exact nI_add _ _ | rfl) (by decide) rfl (fun ls hl => ?_)
        refine lv_goto (tgt := 4) hx hb dX7_inTills_32 (by decide) ?_
        have hs : sX7_inTills w = bX7_inTills_4 w n (a + (w (20 + 7 * p + 4))) (p + 1) := hs.trans (by rw [bX7_inTills_4, if_neg c_11])
        exact ih (a + (w (20 + 7 * p + 4))) (p + 1) (by omega) (by omega) _ _ _ hJ (lv_sub hl [2, 1, 0] rfl) hs
  refine lv_iconst (v := 0) hx hb dX7_inTills_0 (by decide) ?_
  refine lv_istore_n (lv' := [(1, .int 0), (0, .ref (B + 459))]) hx hb dX7_inTills_1 rfl hl (by decide) rfl (fun ls hl => ?_)
  refine lv_iconst (v := 0) hx hb dX7_inTills_2 (by decide) ?_
  refine lv_istore_n (lv' := [(2, .int 0), (1, .int 0), (0, .ref (B + 459))]) hx hb dX7_inTills_3 rfl hl (by decide) rfl (fun ls hl => ?_)
  have hs : sX7_inTills w = bX7_inTills_4 w 13 0 0 := by unfold sX7_inTills; rfl
  exact bk_4 13 0 0 (by omega) (by omega) _ _ _ hJ (lv_sub hl [2, 1, 0] rfl) hs

