def bX5_waitingSet_4 (w : Row) : Nat → Int32 → Nat → Int32
  | 0, _, _ => 0
  | n + 1, st, p => if w 6 ≤ nI p then (st) else (if sX1_isWaiting w p = 0 then (bX5_waitingSet_4 w n st (p + 1)) else (bX5_waitingSet_4 w n (st ||| (1 <<< ((nI p) &&& 31))) (p + 1)))
def sX5_waitingSet (w : Row) : Int32 := bX5_waitingSet_4 w 9 0 0
set_option maxHeartbeats 4000000 in
set_option maxRecDepth 100000 in
theorem mX5_waitingSet (l : Launch) (E : EE) (B : Nat) (g : GS) (k : Nat)  (w : Row) (hk : k < 11)  (hw : g.1 k = w) (hcn : Cn w) : CG l yX5_waitingSet cX5_waitingSet 3 (some .int) 1 20 E B [.ref (B + wo k)] g (some (.int (sX5_waitingSet w))) g := by
  refine mkI (own := RX5) (ty := .int) rfl (by decide) rfl (rfl) (Nat.le_of_ble_eq_true rfl) (fun P_ e_ s_ m_ a_ below meth cd Q X fin ls hl hJ => ?_)
  have hx := X.1
  have hb := X.2.1
  have hl : lv_has ls 3 [(0, .ref (B + wo k))] := hl
  have bk_4 : ∀ (n : Nat) (st : Int32)  (p : Nat), 8 - p < n → (p ≤ 8) → ∀ (H : Heap) (locs : List Loc) (ls : Array Slot), JG E B s_ (g) H locs → lv_has ls 3 [(0, .ref (B + wo k)), (1, .int st), (2, .int (nI p))] → sX5_waitingSet w = bX5_waitingSet_4 w n st p → W P_ l e_ (rmm 1 20 0 0) s_ m_ a_ below meth cd H locs 0 0 Q (F0 m_ 4 ls []) := by
    intro n
    induction n with
    | zero => intro st p hm; exact absurd hm (Nat.not_lt_zero _)
    | succ n ih =>
      intro st p hm hp H locs ls hJ hl hs
      refine lv_iload_n hx hb dX5_waitingSet_4 rfl (lv_at hl 2 rfl) ?_
      refine lv_aload_n hx hb dX5_waitingSet_5 rfl (lv_at hl 0 rfl) ?_
      refine gX5_60 X hJ (k := k) (w := w) (by omega) hw dX5_waitingSet_6 ?_
      refine lv_icmp_ge (tgt := 36) hx hb dX5_waitingSet_9 (by decide) (fun c_9 => ?_) (fun c_9 => ?_)
      · skip
        refine lv_iload_n hx hb dX5_waitingSet_36 rfl (lv_at hl 1 rfl) ?_
        have hs : sX5_waitingSet w = st := hs.trans (by rw [bX5_waitingSet_4, if_pos c_9])
        exact fin hJ (by rw [hs]) dX5_waitingSet_37
      · skip
        have hp2 := Cn.lt6 hcn (by omega) c_9
        refine lv_aload_n hx hb dX5_waitingSet_12 rfl (lv_at hl 0 rfl) ?_
        refine gX5_23 X hJ (k := k) (w := w) (by omega) hw dX5_waitingSet_13 ?_
        refine lv_iload_n hx hb dX5_waitingSet_16 rfl (lv_at hl 2 rfl) ?_
        refine ld_cts X hJ (k := k) (by omega) (j := p) (rfl) (by omega) dX5_waitingSet_17 ?_
        refine kX5_110 X hJ (mX1_isWaiting l E B _ k p w (by omega) (by omega) hw) rfl (lt_W (by omega) (by omega)) (at_C (by omega) (by omega) hw) hl.1 ⟨Nat.le_of_ble_eq_true rfl, Nat.le_of_ble_eq_true rfl⟩ ⟨Nat.le_refl _, Nat.le_refl _⟩ (rest := []) rfl (Nat.le_of_ble_eq_true rfl) dX5_waitingSet_18 (fun H locs hJ => ?_)
        refine lv_if_eq (tgt := 30) hx hb dX5_waitingSet_21 (by decide) (fun c_21 => ?_) (fun c_21 => ?_)
        · skip
          refine lv_iinc (v := nI (p + 1)) (lv' := [(2, .int (nI (p + 1))), (0, .ref (B + wo k)), (1, .int st)]) hx hb dX5_waitingSet_30 hl (k := 2) rfl (by first | exact nI_add _ _ | rfl) (by decide) rfl (fun ls hl => ?_)
          refine lv_goto (tgt := 4) hx hb dX5_waitingSet_33 (by decide) ?_
          have hs : sX5_waitingSet w = bX5_waitingSet_4 w n st (p + 1) := hs.trans (by rw [bX5_waitingSet_4, if_neg c_9, if_pos c_21])
          exact ih st (p + 1) (by omega) (by omega) _ _ _ hJ (lv_sub hl [1, 2, 0] rfl) hs
        · skip
          refine lv_iload_n hx hb dX5_waitingSet_24 rfl (lv_at hl 1 rfl) ?_
          refine lv_iconst (v := 1) hx hb dX5_waitingSet_25 (by decide) ?_
          refine lv_iload_n hx hb dX5_waitingSet_26 rfl (lv_at hl 2 rfl) ?_
          refine lv_ishl hx hb dX5_waitingSet_27 ?_
          refine lv_ior hx hb dX5_waitingSet_28 ?_
          refine lv_istore_n (lv' := [(1, .int (st ||| (1 <<< ((nI p) &&& 31)))), (0, .ref (B + wo k)), (2, .int (nI p))]) hx hb dX5_waitingSet_29 rfl hl (by decide) rfl (fun ls hl => ?_)
          refine lv_iinc (v := nI (p + 1)) (lv' := [(2, .int (nI (p + 1))), (1, .int (st ||| (1 <<< ((nI p) &&& 31)))), (0, .ref (B + wo k))]) hx hb dX5_waitingSet_30 hl (k := 2) rfl (by first | exact nI_add _ _ | rfl) (by decide) rfl (fun ls hl => ?_)
          refine lv_goto (tgt := 4) hx hb dX5_waitingSet_33 (by decide) ?_
          have hs : sX5_waitingSet w = bX5_waitingSet_4 w n (st ||| (1 <<< ((nI p) &&& 31))) (p + 1) := hs.trans (by rw [bX5_waitingSet_4, if_neg c_9, if_neg c_21])
          exact ih (st ||| (1 <<< ((nI p) &&& 31))) (p + 1) (by omega) (by omega) _ _ _ hJ (lv_sub hl [2, 1, 0] rfl) hs
  refine lv_iconst (v := 0) hx hb dX5_waitingSet_0 (by decide) ?_
  refine lv_istore_n (lv' := [(1, .int 0), (0, .ref (B + wo k))]) hx hb dX5_waitingSet_1 rfl hl (by decide) rfl (fun ls hl => ?_)
  refine lv_iconst (v := 0) hx hb dX5_waitingSet_2 (by decide) ?_
  refine lv_istore_n (lv' := [(2, .int 0), (1, .int 0), (0, .ref (B + wo k))]) hx hb dX5_waitingSet_3 rfl hl (by decide) rfl (fun ls hl => ?_)
  have hs : sX5_waitingSet w = bX5_waitingSet_4 w 9 0 0 := by unfold sX5_waitingSet; rfl
  exact bk_4 9 0 0 (by omega) (by omega) _ _ _ hJ (lv_sub hl [2, 1, 0] rfl) hs

def bX5_sumOverCarts_4 (w : Row) (f : Int32) : Nat → Int32 → Nat → Int32
  | 0, _, _ => 0
  | n + 1, sum, p => if w 6 ≤ nI p then (sum) else (bX5_sumOverCarts_4 w f n (sum + (sX1_part w p f)) (p + 1))
def sX5_sumOverCarts (w : Row) (f : Int32) : Int32 := bX5_sumOverCarts_4 w f 9 0 0
set_option maxHeartbeats 4000000 in
set_option maxRecDepth 100000 in
theorem mX5_sumOverCarts (l : Launch) (E : EE) (B : Nat) (g : GS) (k : Nat) (f : Int32) (w : Row) (hk : k < 11)  (hw : g.1 k = w) (hcn : Cn w) : CG l yX5_sumOverCarts cX5_sumOverCarts 4 (some .int) 1 21 E B [.ref (B + wo k), .int f] g (some (.int (sX5_sumOverCarts w f))) g := by
  refine mkI (own := RX5) (ty := .int) rfl (by decide) rfl (rfl) (Nat.le_of_ble_eq_true rfl) (fun P_ e_ s_ m_ a_ below meth cd Q X fin ls hl hJ => ?_)
  have hx := X.1
  have hb := X.2.1
  have hl : lv_has ls 4 [(0, .ref (B + wo k)), (1, .int f)] := hl
  have bk_4 : ∀ (n : Nat) (sum : Int32)  (p : Nat), 8 - p < n → (p ≤ 8) → ∀ (H : Heap) (locs : List Loc) (ls : Array Slot), JG E B s_ (g) H locs → lv_has ls 4 [(0, .ref (B + wo k)), (1, .int f), (2, .int sum), (3, .int (nI p))] → sX5_sumOverCarts w f = bX5_sumOverCarts_4 w f n sum p → W P_ l e_ (rmm 1 21 0 0) s_ m_ a_ below meth cd H locs 0 0 Q (F0 m_ 4 ls []) := by
    intro n
    induction n with
    | zero => intro sum p hm; exact absurd hm (Nat.not_lt_zero _)
    | succ n ih =>
      intro sum p hm hp H locs ls hJ hl hs
      refine lv_iload_n hx hb dX5_sumOverCarts_4 rfl (lv_at hl 3 rfl) ?_
      refine lv_aload_n hx hb dX5_sumOverCarts_5 rfl (lv_at hl 0 rfl) ?_
      refine gX5_60 X hJ (k := k) (w := w) (by omega) hw dX5_sumOverCarts_6 ?_
      refine lv_icmp_ge (tgt := 31) hx hb dX5_sumOverCarts_9 (by decide) (fun c_9 => ?_) (fun c_9 => ?_)
      · skip
        refine lv_iload_n hx hb dX5_sumOverCarts_31 rfl (lv_at hl 2 rfl) ?_
        have hs : sX5_sumOverCarts w f = sum := hs.trans (by rw [bX5_sumOverCarts_4, if_pos c_9])
        exact fin hJ (by rw [hs]) dX5_sumOverCarts_32
      · skip
        have hp2 := Cn.lt6 hcn (by omega) c_9
        refine lv_iload_n hx hb dX5_sumOverCarts_12 rfl (lv_at hl 2 rfl) ?_
        refine lv_aload_n hx hb dX5_sumOverCarts_13 rfl (lv_at hl 0 rfl) ?_
        refine gX5_23 X hJ (k := k) (w := w) (by omega) hw dX5_sumOverCarts_14 ?_
        refine lv_iload_n hx hb dX5_sumOverCarts_17 rfl (lv_at hl 3 rfl) ?_
        refine ld_cts X hJ (k := k) (by omega) (j := p) (rfl) (by omega) dX5_sumOverCarts_18 ?_
        refine lv_iload_n hx hb dX5_sumOverCarts_19 rfl (lv_at hl 1 rfl) ?_
        refine kX5_210 X hJ (mX1_part l E B _ k p f w (by omega) (by omega) hw) rfl (lt_W (by omega) (by omega)) (at_C (by omega) (by omega) hw) hl.1 ⟨Nat.le_of_ble_eq_true rfl, Nat.le_of_ble_eq_true rfl⟩ ⟨Nat.le_refl _, Nat.le_refl _⟩ (rest := [.int sum]) rfl (Nat.le_of_ble_eq_true rfl) dX5_sumOverCarts_20 (fun H locs hJ => ?_)
        refine lv_iadd hx hb dX5_sumOverCarts_23 ?_
        refine lv_istore_n (lv' := [(2, .int (sum + (sX1_part w p f))), (0, .ref (B + wo k)), (1, .int f), (3, .int (nI p))]) hx hb dX5_sumOverCarts_24 rfl hl (by decide) rfl (fun ls hl => ?_)
        refine lv_iinc (v := nI (p + 1)) (lv' := [(3, .int (nI (p + 1))), (2, .int (sum + (sX1_part w p f))), (0, .ref (B + wo k)), (1, .int f)]) hx hb dX5_sumOverCarts_25 hl (k := 3) rfl (by first | exact nI_add _ _ | rfl) (by decide) rfl (fun ls hl => ?_)
        refine lv_goto (tgt := 4) hx hb dX5_sumOverCarts_28 (by decide) ?_
        have hs : sX5_sumOverCarts w f = bX5_sumOverCarts_4 w f n (sum + (sX1_part w p f)) (p + 1) := hs.trans (by rw [bX5_sumOverCarts_4, if_neg c_9])
        exact ih (sum + (sX1_part w p f)) (p + 1) (by omega) (by omega) _ _ _ hJ (lv_sub hl [2, 3, 1, 0] rfl) hs
  refine lv_iconst (v := 0) hx hb dX5_sumOverCarts_0 (by decide) ?_
  refine lv_istore_n (lv' := [(2, .int 0), (0, .ref (B + wo k)), (1, .int f)]) hx hb dX5_sumOverCarts_1 rfl hl (by decide) rfl (fun ls hl => ?_)
  refine lv_iconst (v := 0) hx hb dX5_sumOverCarts_2 (by decide) ?_
  refine lv_istore_n (lv' := [(3, .int 0), (2, .int 0), (0, .ref (B + wo k)), (1, .int f)]) hx hb dX5_sumOverCarts_3 rfl hl (by decide) rfl (fun ls hl => ?_)
  have hs : sX5_sumOverCarts w f = bX5_sumOverCarts_4 w f 9 0 0 := by unfold sX5_sumOverCarts; rfl
  exact bk_4 9 0 0 (by omega) (by omega) _ _ _ hJ (lv_sub hl [2, 3, 1, 0] rfl) hs

def bX5_sumOverBridges_4 (w : Row) (f : Int32) : Nat → Int32 → Nat → Int32
  | 0, _, _ => 0
  | n + 1, sum, p => if w 5 ≤ nI p then (sum) else (bX5_sumOverBridges_4 w f n (sum + (sX0_part w p f)) (p + 1))
def sX5_sumOverBridges (w : Row) (f : Int32) : Int32 := bX5_sumOverBridges_4 w f 13 0 0
set_option maxHeartbeats 4000000 in
set_option maxRecDepth 100000 in
theorem mX5_sumOverBridges (l : Launch) (E : EE) (B : Nat) (g : GS) (k : Nat) (f : Int32) (w : Row) (hk : k < 11)  (hw : g.1 k = w) (hcn : Cn w) : CG l yX5_sumOverBridges cX5_sumOverBridges 4 (some .int) 1 21 E B [.ref (B + wo k), .int f] g (some (.int (sX5_sumOverBridges w f))) g := by
  refine mkI (own := RX5) (ty := .int) rfl (by decide) rfl (rfl) (Nat.le_of_ble_eq_true rfl) (fun P_ e_ s_ m_ a_ below meth cd Q X fin ls hl hJ => ?_)
  have hx := X.1
  have hb := X.2.1
  have hl : lv_has ls 4 [(0, .ref (B + wo k)), (1, .int f)] := hl
  have bk_4 : ∀ (n : Nat) (sum : Int32)  (p : Nat), 12 - p < n → (p ≤ 12) → ∀ (H : Heap) (locs : List Loc) (ls : Array Slot), JG E B s_ (g) H locs → lv_has ls 4 [(0, .ref (B + wo k)), (1, .int f), (2, .int sum), (3, .int (nI p))] → sX5_sumOverBridges w f = bX5_sumOverBridges_4 w f n sum p → W P_ l e_ (rmm 1 21 0 0) s_ m_ a_ below meth cd H locs 0 0 Q (F0 m_ 4 ls []) := by
    intro n
    induction n with
    | zero => intro sum p hm; exact absurd hm (Nat.not_lt_zero _)
    | succ n ih =>
      intro sum p hm hp H locs ls hJ hl hs
      refine lv_iload_n hx hb dX5_sumOverBridges_4 rfl (lv_at hl 3 rfl) ?_
      refine lv_aload_n hx hb dX5_sumOverBridges_5 rfl (lv_at hl 0 rfl) ?_
      refine gX5_57 X hJ (k := k) (w := w) (by omega) hw dX5_sumOverBridges_6 ?_
      refine lv_icmp_ge (tgt := 31) hx hb dX5_sumOverBridges_9 (by decide) (fun c_9 => ?_) (fun c_9 => ?_)
      · skip
        refine lv_iload_n hx hb dX5_sumOverBridges_31 rfl (lv_at hl 2 rfl) ?_
        have hs : sX5_sumOverBridges w f = sum := hs.trans (by rw [bX5_sumOverBridges_4, if_pos c_9])
        exact fin hJ (by rw [hs]) dX5_sumOverBridges_32
      · skip
        have hp2 := Cn.lt5 hcn (by omega) c_9
        refine lv_iload_n hx hb dX5_sumOverBridges_12 rfl (lv_at hl 2 rfl) ?_
        refine lv_aload_n hx hb dX5_sumOverBridges_13 rfl (lv_at hl 0 rfl) ?_
        refine gX5_17 X hJ (k := k) (w := w) (by omega) hw dX5_sumOverBridges_14 ?_
        refine lv_iload_n hx hb dX5_sumOverBridges_17 rfl (lv_at hl 3 rfl) ?_
        refine ld_brs X hJ (k := k) (by omega) (j := p) (rfl) (by omega) dX5_sumOverBridges_18 ?_
        refine lv_iload_n hx hb dX5_sumOverBridges_19 rfl (lv_at hl 1 rfl) ?_
        refine kX5_213 X hJ (mX0_part l E B _ k p f w (by omega) (by omega) hw) rfl (lt_W (by omega) (by omega)) (at_B (by omega) (by omega) hw) hl.1 ⟨Nat.le_of_ble_eq_true rfl, Nat.le_of_ble_eq_true rfl⟩ ⟨Nat.le_refl _, Nat.le_refl _⟩ (rest := [.int sum]) rfl (Nat.le_of_ble_eq_true rfl) dX5_sumOverBridges_20 (fun H locs hJ => ?_)
        refine lv_iadd hx hb dX5_sumOverBridges_23 ?_
        refine lv_istore_n (lv' := [(2, .int (sum + (sX0_part w p f))), (0, .ref (B + wo k)), (1, .int f), (3, .int (nI p))]) hx hb dX5_sumOverBridges_24 rfl hl (by decide) rfl (fun ls hl => ?_)
        refine lv_iinc (v := nI (p + 1)) (lv' := [(3, .int (nI (p + 1))), (2, .int (sum + (sX0_part w p f))), (0, .ref (B + wo k)), (1, .int f)]) hx hb dX5_sumOverBridges_25 hl (k := 3) rfl (by first | exact nI_add _ _ | rfl) (by decide) rfl (fun ls hl => ?_)
        refine lv_goto (tgt := 4) hx hb dX5_sumOverBridges_28 (by decide) ?_
        have hs : sX5_sumOverBridges w f = bX5_sumOverBridges_4 w f n (sum + (sX0_part w p f)) (p + 1) := hs.trans (by rw [bX5_sumOverBridges_4, if_neg c_9])
        exact ih (sum + (sX0_part w p f)) (p + 1) (by omega) (by omega) _ _ _ hJ (lv_sub hl [2, 3, 1, 0] rfl) hs
  refine lv_iconst (v := 0) hx hb dX5_sumOverBridges_0 (by decide) ?_
  refine lv_istore_n (lv' := [(2, .int 0), (0, .ref (B + wo k)), (1, .int f)]) hx hb dX5_sumOverBridges_1 rfl hl (by decide) rfl (fun ls hl => ?_)
  refine lv_iconst (v := 0) hx hb dX5_sumOverBridges_2 (by decide) ?_
  refine lv_istore_n (lv' := [(3, .int 0), (2, .int 0), (0, .ref (B + wo k)), (1, .int f)]) hx hb dX5_sumOverBridges_3 rfl hl (by decide) rfl (fun ls hl => ?_)
  have hs : sX5_sumOverBridges w f = bX5_sumOverBridges_4 w f 13 0 0 := by unfold sX5_sumOverBridges; rfl
  exact bk_4 13 0 0 (by omega) (by omega) _ _ _ hJ (lv_sub hl [2, 3, 1, 0] rfl) hs

def sX5_total (w : Row) (x : Int32) : Int32 := if x = 0 then (w 4) else if x = 1 then (w 5) else if x = 2 then (w 6) else if x = 3 then (sX5_waitingSet w) else if x = 4 then (sX5_sumOverBridges w 6) else if x = 5 then (sX5_sumOverCarts w 1) else if x = 6 then (sX5_sumOverBridges w 5) else if x = 7 then (w 8) else if x = 8 then (w 9) else (if sX6_isBelow (x - 9) 4 = 0 then ((-2)) else (w (nn (x - 9))))
set_option maxHeartbeats 4000000 in
set_option maxRecDepth 100000 in
theorem mX5_total (l : Launch) (E : EE) (B : Nat) (g : GS) (k : Nat) (x : Int32) (w : Row) (hk : k < 11)  (hw : g.1 k = w) (hcn : Cn w) : CG l yX5_total cX5_total 3 (some .int) 2 44 E B [.ref (B + wo k), .int x] g (some (.int (sX5_total w x))) g := by
  refine mkI (own := RX5) (ty := .int) rfl (by decide) rfl (rfl) (Nat.le_of_ble_eq_true rfl) (fun P_ e_ s_ m_ a_ below meth cd Q X fin ls hl hJ => ?_)
  have hx := X.1
  have hb := X.2.1
  have hl : lv_has ls 3 [(0, .ref (B + wo k)), (1, .int x)] := hl
  refine lv_iload_n hx hb dX5_total_0 rfl (lv_at hl 1 rfl) ?_
  by_cases c_1_0 : x = 0
  · rw [c_1_0]
    refine lv_tableIn (tgt := 52) hx hb dX5_total_1 (by decide) (by decide) (off := 51) (by decide) (by decide) ?_
    refine lv_aload_n hx hb dX5_total_52 rfl (lv_at hl 0 rfl) ?_
    refine gX5_63 X hJ (k := k) (w := w) (by omega) hw dX5_total_53 ?_
    have hs : sX5_total w x = w 4 := by unfold sX5_total; rw [if_pos c_1_0]
    exact fin hJ (by rw [hs]) dX5_total_56
  by_cases c_1_1 : x = 1
  · rw [c_1_1]
    refine lv_tableIn (tgt := 57) hx hb dX5_total_1 (by decide) (by decide) (off := 56) (by decide) (by decide) ?_
    refine lv_aload_n hx hb dX5_total_57 rfl (lv_at hl 0 rfl) ?_
    refine gX5_57 X hJ (k := k) (w := w) (by omega) hw dX5_total_58 ?_
    have hs : sX5_total w x = w 5 := by unfold sX5_total; rw [if_neg c_1_0, if_pos c_1_1]
    exact fin hJ (by rw [hs]) dX5_total_61
  by_cases c_1_2 : x = 2
  · rw [c_1_2]
    refine lv_tableIn (tgt := 62) hx hb dX5_total_1 (by decide) (by decide) (off := 61) (by decide) (by decide) ?_
    refine lv_aload_n hx hb dX5_total_62 rfl (lv_at hl 0 rfl) ?_
    refine gX5_60 X hJ (k := k) (w := w) (by omega) hw dX5_total_63 ?_
    have hs : sX5_total w x = w 6 := by unfold sX5_total; rw [if_neg c_1_0, if_neg c_1_1, if_pos c_1_2]
    exact fin hJ (by rw [hs]) dX5_total_66
  by_cases c_1_3 : x = 3
  · rw [c_1_3]
    refine lv_tableIn (tgt := 67) hx hb dX5_total_1 (by decide) (by decide) (off := 66) (by decide) (by decide) ?_
    refine lv_aload_n hx hb dX5_total_67 rfl (lv_at hl 0 rfl) ?_
    refine kX5_201 X hJ (mX5_waitingSet l E B _ k w (by omega) hw (hcn)) rfl (lt_W0 (by omega)) (at_W (by omega) rfl) hl.1 ⟨Nat.le_of_ble_eq_true rfl, Nat.le_of_ble_eq_true rfl⟩ ⟨Nat.le_refl _, Nat.le_refl _⟩ (rest := []) rfl (Nat.le_of_ble_eq_true rfl) dX5_total_68 (fun H locs hJ => ?_)
    have hs : sX5_total w x = sX5_waitingSet w := by unfold sX5_total; rw [if_neg c_1_0, if_neg c_1_1, if_neg c_1_2, if_pos c_1_3]
    exact fin hJ (by rw [hs]) dX5_total_71
  by_cases c_1_4 : x = 4
  · rw [c_1_4]
    refine lv_tableIn (tgt := 72) hx hb dX5_total_1 (by decide) (by decide) (off := 71) (by decide) (by decide) ?_
    refine lv_aload_n hx hb dX5_total_72 rfl (lv_at hl 0 rfl) ?_
    refine lv_bipush (v := 6) hx hb dX5_total_73 (by decide) ?_
    refine kX5_204 X hJ (mX5_sumOverBridges l E B _ k 6 w (by omega) hw (hcn)) rfl (lt_W0 (by omega)) (at_W (by omega) rfl) hl.1 ⟨Nat.le_of_ble_eq_true rfl, Nat.le_of_ble_eq_true rfl⟩ ⟨Nat.le_refl _, Nat.le_refl _⟩ (rest := []) rfl (Nat.le_of_ble_eq_true rfl) dX5_total_75 (fun H locs hJ => ?_)
    have hs : sX5_total w x = sX5_sumOverBridges w 6 := by unfold sX5_total; rw [if_neg c_1_0, if_neg c_1_1, if_neg c_1_2, if_neg c_1_3, if_pos c_1_4]
    exact fin hJ (by rw [hs]) dX5_total_78
  by_cases c_1_5 : x = 5
  · rw [c_1_5]
    refine lv_tableIn (tgt := 79) hx hb dX5_total_1 (by decide) (by decide) (off := 78) (by decide) (by decide) ?_
    refine lv_aload_n hx hb dX5_total_79 rfl (lv_at hl 0 rfl) ?_
    refine lv_iconst (v := 1) hx hb dX5_total_80 (by decide) ?_
    refine kX5_207 X hJ (mX5_sumOverCarts l E B _ k 1 w (by omega) hw (hcn)) rfl (lt_W0 (by omega)) (at_W (by omega) rfl) hl.1 ⟨Nat.le_of_ble_eq_true rfl, Nat.le_of_ble_eq_true rfl⟩ ⟨Nat.le_refl _, Nat.le_refl _⟩ (rest := []) rfl (Nat.le_of_ble_eq_true rfl) dX5_total_81 (fun H locs hJ => ?_)
    have hs : sX5_total w x = sX5_sumOverCarts w 1 := by unfold sX5_total; rw [if_neg c_1_0, if_neg c_1_1, if_neg c_1_2, if_neg c_1_3, if_neg c_1_4, if_pos c_1_5]
    exact fin hJ (by rw [hs]) dX5_total_84
  by_cases c_1_6 : x = 6
  · rw [c_1_6]
    refine lv_tableIn (tgt := 85) hx hb dX5_total_1 (by decide) (by decide) (off := 84) (by decide) (by decide) ?_
    refine lv_aload_n hx hb dX5_total_85 rfl (lv_at hl 0 rfl) ?_
    refine lv_iconst (v := 5) hx hb dX5_total_86 (by decide) ?_
    refine kX5_204 X hJ (mX5_sumOverBridges l E B _ k 5 w (by omega) hw (hcn)) rfl (lt_W0 (by omega)) (at_W (by omega) rfl) hl.1 ⟨Nat.le_of_ble_eq_true rfl, Nat.le_of_ble_eq_true rfl⟩ ⟨Nat.le_refl _, Nat.le_refl _⟩ (rest := []) rfl (Nat.le_of_ble_eq_true rfl) dX5_total_87 (fun H locs hJ => ?_)
    have hs : sX5_total w x = sX5_sumOverBridges w 5 := by unfold sX5_total; rw [if_neg c_1_0, if_neg c_1_1, if_neg c_1_2, if_neg c_1_3, if_neg c_1_4, if_neg c_1_5, if_pos c_1_6]
    exact fin hJ (by rw [hs]) dX5_total_90
  by_cases c_1_7 : x = 7
  · rw [c_1_7]
    refine lv_tableIn (tgt := 91) hx hb dX5_total_1 (by decide) (by decide) (off := 90) (by decide) (by decide) ?_
    refine lv_aload_n hx hb dX5_total_91 rfl (lv_at hl 0 rfl) ?_
    refine gX5_66 X hJ (k := k) (w := w) (by omega) hw dX5_total_92 ?_
    have hs : sX5_total w x = w 8 := by unfold sX5_total; rw [if_neg c_1_0, if_neg c_1_1, if_neg c_1_2, if_neg c_1_3, if_neg c_1_4, if_neg c_1_5, if_neg c_1_6, if_pos c_1_7]
    exact fin hJ (by rw [hs]) dX5_total_95
  by_cases c_1_8 : x = 8
  · rw [c_1_8]
    refine lv_tableIn (tgt := 96) hx hb dX5_total_1 (by decide) (by decide) (off := 95) (by decide) (by decide) ?_
    refine lv_aload_n hx hb dX5_total_96 rfl (lv_at hl 0 rfl) ?_
    refine gX5_69 X hJ (k := k) (w := w) (by omega) hw dX5_total_97 ?_
    have hs : sX5_total w x = w 9 := by unfold sX5_total; rw [if_neg c_1_0, if_neg c_1_1, if_neg c_1_2, if_neg c_1_3, if_neg c_1_4, if_neg c_1_5, if_neg c_1_6, if_neg c_1_7, if_pos c_1_8]
    exact fin hJ (by rw [hs]) dX5_total_100
  refine rtabOut (tgt := 101) hx hb dX5_total_1 (by decide) (fun h1 h2 => ?_) ?_
  · exfalso; have e0 := ne_toInt (n := 0) c_1_0 (by decide); have e1 := ne_toInt (n := 1) c_1_1 (by decide); have e2 := ne_toInt (n := 2) c_1_2 (by decide); have e3 := ne_toInt (n := 3) c_1_3 (by decide); have e4 := ne_toInt (n := 4) c_1_4 (by decide); have e5 := ne_toInt (n := 5) c_1_5 (by decide); have e6 := ne_toInt (n := 6) c_1_6 (by decide); have e7 := ne_toInt (n := 7) c_1_7 (by decide); have e8 := ne_toInt (n := 8) c_1_8 (by decide); omega
  refine lv_iload_n hx hb dX5_total_101 rfl (lv_at hl 1 rfl) ?_
  refine lv_bipush (v := 9) hx hb dX5_total_102 (by decide) ?_
  refine lv_isub hx hb dX5_total_104 ?_
  refine lv_istore_n (lv' := [(2, .int (x - 9)), (0, .ref (B + wo k)), (1, .int x)]) hx hb dX5_total_105 rfl hl (by decide) rfl (fun ls hl => ?_)
  refine lv_iload_n hx hb dX5_total_106 rfl (lv_at hl 0 rfl) ?_
  refine lv_iconst (v := 4) hx hb dX5_total_107 (by decide) ?_
  refine kX5_72 X hJ (mX6_isBelow l E B _ (x - 9) 4) rfl hl.1 ⟨Nat.le_of_ble_eq_true rfl, Nat.le_of_ble_eq_true rfl⟩ ⟨Nat.le_refl _, Nat.le_refl _⟩ (rest := []) rfl (Nat.le_of_ble_eq_true rfl) dX5_total_108 (fun H locs hJ => ?_)
  refine lv_if_eq (tgt := 123) hx hb dX5_total_111 (by decide) (fun c_111 => ?_) (fun c_111 => ?_)
  · skip
    refine lv_bipush (v := (-2)) hx hb dX5_total_123 (by decide) ?_
    have hs : sX5_total w x = (-2) := by unfold sX5_total; rw [if_neg c_1_0, if_neg c_1_1, if_neg c_1_2, if_neg c_1_3, if_neg c_1_4, if_neg c_1_5, if_neg c_1_6, if_neg c_1_7, if_neg c_1_8, if_pos c_111]
    exact fin hJ (by rw [hs]) dX5_total_125
  · skip
    refine lv_aload_n hx hb dX5_total_114 rfl (lv_at hl 1 rfl) ?_
    refine gX5_9 X hJ (k := k) (w := w) (by omega) hw dX5_total_115 ?_
    refine lv_iload_n hx hb dX5_total_118 rfl (lv_at hl 0 rfl) ?_
    refine cvt (y := nI (nn (x - 9))) ((isB_of c_111 (show sm 4 4 from ⟨by decide, by decide⟩)).1) ?_
    refine ld_set X hJ (k := k) (w := w) (by omega) hw (j := nn (x - 9)) (rfl) ((isB_of c_111 (show sm 4 4 from ⟨by decide, by decide⟩)).2.2) dX5_total_119 ?_
    refine lv_goto (tgt := 125) hx hb dX5_total_120 (by decide) ?_
    have hs : sX5_total w x = w (nn (x - 9)) := by unfold sX5_total; rw [if_neg c_1_0, if_neg c_1_1, if_neg c_1_2, if_neg c_1_3, if_neg c_1_4, if_neg c_1_5, if_neg c_1_6, if_neg c_1_7, if_neg c_1_8, if_neg c_111]
    exact fin hJ (by rw [hs]) dX5_total_125

def sX5_reasonToStay (w : Row) (c : Nat) : Int32 := oe (sX5_bridgeOf w (w (104 + 8 * c + 2))) (1) (fun q1 => oe (sX5_comerOver w q1) (if w (360 + q1) = 1 then (2) else (oe (sX5_waiterAt w q1 0) (oe (sX5_waiterAt w q1 1) (3) (fun q4 => if q4 = c then (if sX5_isTied w q1 = 0 then (4) else (6)) else (3))) (fun q3 => if q3 = c then (if sX5_isTied w q1 = 0 then (4) else (6)) else (oe (sX5_waiterAt w q1 1) (3) (fun q5 => if q5 = c then (if sX5_isTied w q1 = 0 then (4) else (6)) else (3)))))) (fun q2 => if q2 = c then (0) else (if w (360 + q1) = 1 then (2) else (oe (sX5_waiterAt w q1 0) (oe (sX5_waiterAt w q1 1) (3) (fun q7 => if q7 = c then (if sX5_isTied w q1 = 0 then (4) else (5)) else (3))) (fun q6 => if q6 = c then (if sX5_isTied w q1 = 0 then (4) else (5)) else (oe (sX5_waiterAt w q1 1) (3) (fun q8 => if q8 = c then (if sX5_isTied w q1 = 0 then (4) else (5)) else (3))))))))
set_option maxHeartbeats 4000000 in
set_option maxRecDepth 100000 in
theorem mX5_reasonToStay (l : Launch) (E : EE) (B : Nat) (g : GS) (k : Nat) (c : Nat) (w : Row) (hk : k < 11) (hc : c < 8) (hw : g.1 k = w) (hcn : Cn w) : CG l yX5_reasonToStay cX5_reasonToStay 4 (some .int) 3 70 E B [.ref (B + wo k), .ref (B + (wo k + (17 + 3 * c)))] g (some (.int (sX5_reasonToStay w c))) g := by
  refine mkI (own := RX5) (ty := .int) rfl (by decide) rfl (rfl) (Nat.le_of_ble_eq_true rfl) (fun P_ e_ s_ m_ a_ below meth cd Q X fin ls hl hJ => ?_)
  have hx := X.1
  have hb := X.2.1
  have hl : lv_has ls 4 [(0, .ref (B + wo k)), (1, .ref (B + (wo k + (17 + 3 * c))))] := hl
  refine lv_aload_n hx hb dX5_reasonToStay_0 rfl (lv_at hl 0 rfl) ?_
  refine lv_aload_n hx hb dX5_reasonToStay_1 rfl (lv_at hl 1 rfl) ?_
  refine gX5_118 X hJ (k := k) (w := w) (by omega) (i := c) (by omega)  hw dX5_reasonToStay_2 ?_
  refine kX5_106 X hJ (mX5_bridgeOf l E B _ k (w (104 + 8 * c + 2)) w (by omega) hw (hcn)) rfl (lt_W0 (by omega)) (at_W (by omega) rfl) hl.1 ⟨Nat.le_of_ble_eq_true rfl, Nat.le_of_ble_eq_true rfl⟩ ⟨Nat.le_refl _, Nat.le_refl _⟩ (rest := []) rfl (Nat.le_of_ble_eq_true rfl) dX5_reasonToStay_5 (fun H locs hJ => ?_)
  rcases o_5 : sX5_bridgeOf w (w (104 + 8 * c + 2)) with _ | q1
  · skip
    refine lv_astore_nN (lv' := [(2, .null), (0, .ref (B + wo k)), (1, .ref (B + (wo k + (17 + 3 * c))))]) hx hb dX5_reasonToStay_8 rfl hl (by decide) rfl (fun ls hl => ?_)
    refine lv_aload_nN hx hb dX5_reasonToStay_9 rfl (lv_at hl 0 rfl) ?_
    refine lv_ifnonnullN hx hb dX5_reasonToStay_10 ?_
    refine lv_iconst (v := 1) hx hb dX5_reasonToStay_13 (by decide) ?_
    have hs : sX5_reasonToStay w c = 1 := by unfold sX5_reasonToStay; rw [oe_none o_5]
    exact fin hJ (by rw [hs]) dX5_reasonToStay_14
  · skip
    obtain ⟨hq1, xq1, yq1⟩ := bridgeOf_some (hcn) o_5
    refine lv_astore_n (lv' := [(2, .ref (B + (wo k + (5 + q1)))), (0, .ref (B + wo k)), (1, .ref (B + (wo k + (17 + 3 * c))))]) hx hb dX5_reasonToStay_8 rfl hl (by decide) rfl (fun ls hl => ?_)
    refine lv_aload_n hx hb dX5_reasonToStay_9 rfl (lv_at hl 0 rfl) ?_
    refine lv_ifnonnull (tgt := 15) hx hb dX5_reasonToStay_10 (by decide) ?_
    refine lv_aload_n hx hb dX5_reasonToStay_15 rfl (lv_at hl 1 rfl) ?_
    refine lv_aload_n hx hb dX5_reasonToStay_16 rfl (lv_at hl 0 rfl) ?_
    refine kX5_156 X hJ (mX5_comerOver l E B _ k q1 w (by omega) (by omega) hw (hcn)) rfl (lt_W0 (by omega)) (at_W (by omega) rfl) hl.1 ⟨Nat.le_of_ble_eq_true rfl, Nat.le_of_ble_eq_true rfl⟩ ⟨Nat.le_refl _, Nat.le_refl _⟩ (rest := []) rfl (Nat.le_of_ble_eq_true rfl) dX5_reasonToStay_17 (fun H locs hJ => ?_)
    rcases o_17 : sX5_comerOver w q1 with _ | q2
    · skip
      refine lv_astore_nN (lv' := [(3, .null), (2, .ref (B + (wo k + (5 + q1)))), (0, .ref (B + wo k)), (1, .ref (B + (wo k + (17 + 3 * c))))]) hx hb dX5_reasonToStay_20 rfl hl (by decide) rfl (fun ls hl => ?_)
      refine lv_aload_nN hx hb dX5_reasonToStay_21 rfl (lv_at hl 0 rfl) ?_
      refine lv_aload_n hx hb dX5_reasonToStay_22 rfl (lv_at hl 3 rfl) ?_
      refine lv_acmp_ne (rx := none) (ry := some (B + (wo k + (17 + 3 * c)))) (tgt := 28) hx hb dX5_reasonToStay_23 (by decide) (fun c_23 => ?_) (fun c_23 => ?_)
      · skip
        refine lv_aload_n hx hb dX5_reasonToStay_28 rfl (lv_at hl 1 rfl) ?_
        refine gX5_124 X hJ (k := k) (w := w) (by omega) (i := q1) (by omega)  hw dX5_reasonToStay_29 ?_
        refine lv_iconst (v := 1) hx hb dX5_reasonToStay_32 (by decide) ?_
        refine lv_icmp_ne (tgt := 38) hx hb dX5_reasonToStay_33 (by decide) (fun c_33 => ?_) (fun c_33 => ?_)
        · skip
          refine lv_aload_n hx hb dX5_reasonToStay_38 rfl (lv_at hl 2 rfl) ?_
          refine lv_aload_n hx hb dX5_reasonToStay_39 rfl (lv_at hl 1 rfl) ?_
          refine lv_iconst (v := 0) hx hb dX5_reasonToStay_40 (by decide) ?_
          refine kX5_183 X hJ (mX5_waiterAt l E B _ k q1 0 w (by omega) (by omega) hw (hcn)) rfl (lt_W0 (by omega)) (at_W (by omega) rfl) hl.1 ⟨Nat.le_of_ble_eq_true rfl, Nat.le_of_ble_eq_true rfl⟩ ⟨Nat.le_refl _, Nat.le_refl _⟩ (rest := []) rfl (Nat.le_of_ble_eq_true rfl) dX5_reasonToStay_41 (fun H locs hJ => ?_)
          rcases o_41 : sX5_waiterAt w q1 0 with _ | q3
          · skip
            refine lv_aload_n hx hb dX5_reasonToStay_44 rfl (lv_at hl 3 rfl) ?_
            refine lv_acmp_eq (rx := none) (ry := some (B + (wo k + (17 + 3 * c)))) (tgt := 60) hx hb dX5_reasonToStay_45 (by decide) (fun c_45 => ?_) (fun c_45 => ?_)
            · exact absurd c_45 (by simp)
            · skip
              refine lv_aload_n hx hb dX5_reasonToStay_48 rfl (lv_at hl 2 rfl) ?_
              refine lv_aload_n hx hb dX5_reasonToStay_49 rfl (lv_at hl 1 rfl) ?_
              refine lv_iconst (v := 1) hx hb dX5_reasonToStay_50 (by decide) ?_
              refine kX5_183 X hJ (mX5_waiterAt l E B _ k q1 1 w (by omega) (by omega) hw (hcn)) rfl (lt_W0 (by omega)) (at_W (by omega) rfl) hl.1 ⟨Nat.le_of_ble_eq_true rfl, Nat.le_of_ble_eq_true rfl⟩ ⟨Nat.le_refl _, Nat.le_refl _⟩ (rest := []) rfl (Nat.le_of_ble_eq_true rfl) dX5_reasonToStay_51 (fun H locs hJ => ?_)
              rcases o_51 : sX5_waiterAt w q1 1 with _ | q4
              · skip
                refine lv_aload_n hx hb dX5_reasonToStay_54 rfl (lv_at hl 3 rfl) ?_
                refine lv_acmp_eq (rx := none) (ry := some (B + (wo k + (17 + 3 * c)))) (tgt := 60) hx hb dX5_reasonToStay_55 (by decide) (fun c_55 => ?_) (fun c_55 => ?_)
                · exact absurd c_55 (by simp)
                · skip
                  refine lv_iconst (v := 3) hx hb dX5_reasonToStay_58 (by decide) ?_
                  have hs : sX5_reasonToStay w c = 3 := by unfold sX5_reasonToStay; rw [oe_some o_5, oe_none o_17, if_neg c_33, oe_none o_41, oe_none o_51]
                  exact fin hJ (by rw [hs]) dX5_reasonToStay_59
              · skip
                have hq4 := waiterAt_some (hcn) o_51
                refine lv_aload_n hx hb dX5_reasonToStay_54 rfl (lv_at hl 3 rfl) ?_
                refine lv_acmp_eq (rx := some (B + (wo k + (17 + 3 * q4)))) (ry := some (B + (wo k + (17 + 3 * c)))) (tgt := 60) hx hb dX5_reasonToStay_55 (by decide) (fun c_55 => ?_) (fun c_55 => ?_)
                · have c_55 : q4 = c := by have := Option.some.inj c_55; omega
                  refine lv_aload_n hx hb dX5_reasonToStay_60 rfl (lv_at hl 2 rfl) ?_
                  refine lv_aload_n hx hb dX5_reasonToStay_61 rfl (lv_at hl 1 rfl) ?_
                  refine kX5_152 X hJ (mX5_isTied l E B _ k q1 w (by omega) (by omega) hw (hcn)) rfl (lt_W0 (by omega)) (at_W (by omega) rfl) hl.1 ⟨Nat.le_of_ble_eq_true rfl, Nat.le_of_ble_eq_true rfl⟩ ⟨Nat.le_refl _, Nat.le_refl _⟩ (rest := []) rfl (Nat.le_of_ble_eq_true rfl) dX5_reasonToStay_62 (fun H locs hJ => ?_)
                  refine lv_if_ne (tgt := 70) hx hb dX5_reasonToStay_65 (by decide) (fun c_65 => ?_) (fun c_65 => ?_)
                  · skip
                    refine lv_aload_nN hx hb dX5_reasonToStay_70 rfl (lv_at hl 0 rfl) ?_
                    refine lv_ifnonnullN hx hb dX5_reasonToStay_71 ?_
                    refine lv_bipush (v := 6) hx hb dX5_reasonToStay_74 (by decide) ?_
                    refine lv_goto (tgt := 80) hx hb dX5_reasonToStay_76 (by decide) ?_
                    have hs : sX5_reasonToStay w c = 6 := by unfold sX5_reasonToStay; rw [oe_some o_5, oe_none o_17, if_neg c_33, oe_none o_41, oe_some o_51, if_pos c_55, if_neg c_65]
                    exact fin hJ (by rw [hs]) dX5_reasonToStay_80
                  · skip
                    refine lv_iconst (v := 4) hx hb dX5_reasonToStay_68 (by decide) ?_
                    have hs : sX5_reasonToStay w c = 4 := by unfold sX5_reasonToStay; rw [oe_some o_5, oe_none o_17, if_neg c_33, oe_none o_41, oe_some o_51, if_pos c_55, if_pos c_65]
                    exact fin hJ (by rw [hs]) dX5_reasonToStay_69
                · have c_55 : ¬ q4 = c := fun q => c_55 (by rw [q])
                  refine lv_iconst (v := 3) hx hb dX5_reasonToStay_58 (by decide) ?_
                  have hs : sX5_reasonToStay w c = 3 := by unfold sX5_reasonToStay; rw [oe_some o_5, oe_none o_17, if_neg c_33, oe_none o_41, oe_some o_51, if_neg c_55]
                  exact fin hJ (by rw [hs]) dX5_reasonToStay_59
          · skip
            have hq3 := waiterAt_some (hcn) o_41
            refine lv_aload_n hx hb dX5_reasonToStay_44 rfl (lv_at hl 3 rfl) ?_
            refine lv_acmp_eq (rx := some (B + (wo k + (17 + 3 * q3)))) (ry := some (B + (wo k + (17 + 3 * c)))) (tgt := 60) hx hb dX5_reasonToStay_45 (by decide) (fun c_45 => ?_) (fun c_45 => ?_)
            · have c_45 : q3 = c := by have := Option.some.inj c_45; omega
              refine lv_aload_n hx hb dX5_reasonToStay_60 rfl (lv_at hl 2 rfl) ?_
              refine lv_aload_n hx hb dX5_reasonToStay_61 rfl (lv_at hl 1 rfl) ?_
              refine kX5_152 X hJ (mX5_isTied l E B _ k q1 w (by omega) (by omega) hw (hcn)) rfl (lt_W0 (by omega)) (at_W (by omega) rfl) hl.1 ⟨Nat.le_of_ble_eq_true rfl, Nat.le_of_ble_eq_true rfl⟩ ⟨Nat.le_refl _, Nat.le_refl _⟩ (rest := []) rfl (Nat.le_of_ble_eq_true rfl) dX5_reasonToStay_62 (fun H locs hJ => ?_)
              refine lv_if_ne (tgt := 70) hx hb dX5_reasonToStay_65 (by decide) (fun c_65 => ?_) (fun c_65 => ?_)
              · skip
                refine lv_aload_nN hx hb dX5_reasonToStay_70 rfl (lv_at hl 0 rfl) ?_
                refine lv_ifnonnullN hx hb dX5_reasonToStay_71 ?_
                refine lv_bipush (v := 6) hx hb dX5_reasonToStay_74 (by decide) ?_
                refine lv_goto (tgt := 80) hx hb dX5_reasonToStay_76 (by decide) ?_
                have hs : sX5_reasonToStay w c = 6 := by unfold sX5_reasonToStay; rw [oe_some o_5, oe_none o_17, if_neg c_33, oe_some o_41, if_pos c_45, if_neg c_65]
                exact fin hJ (by rw [hs]) dX5_reasonToStay_80
              · skip
                refine lv_iconst (v := 4) hx hb dX5_reasonToStay_68 (by decide) ?_
                have hs : sX5_reasonToStay w c = 4 := by unfold sX5_reasonToStay; rw [oe_some o_5, oe_none o_17, if_neg c_33, oe_some o_41, if_pos c_45, if_pos c_65]
                exact fin hJ (by rw [hs]) dX5_reasonToStay_69
            · have c_45 : ¬ q3 = c := fun q => c_45 (by rw [q])
              refine lv_aload_n hx hb dX5_reasonToStay_48 rfl (lv_at hl 2 rfl) ?_
              refine lv_aload_n hx hb dX5_reasonToStay_49 rfl (lv_at hl 1 rfl) ?_
              refine lv_iconst (v := 1) hx hb dX5_reasonToStay_50 (by decide) ?_
              refine kX5_183 X hJ (mX5_waiterAt l E B _ k q1 1 w (by omega) (by omega) hw (hcn)) rfl (lt_W0 (by omega)) (at_W (by omega) rfl) hl.1 ⟨Nat.le_of_ble_eq_true rfl, Nat.le_of_ble_eq_true rfl⟩ ⟨Nat.le_refl _, Nat.le_refl _⟩ (rest := []) rfl (Nat.le_of_ble_eq_true rfl) dX5_reasonToStay_51 (fun H locs hJ => ?_)
              rcases o_51 : sX5_waiterAt w q1 1 with _ | q5
              · skip
                refine lv_aload_n hx hb dX5_reasonToStay_54 rfl (lv_at hl 3 rfl) ?_
                refine lv_acmp_eq (rx := none) (ry := some (B + (wo k + (17 + 3 * c)))) (tgt := 60) hx hb dX5_reasonToStay_55 (by decide) (fun c_55 => ?_) (fun c_55 => ?_)
                · exact absurd c_55 (by simp)
                · skip
                  refine lv_iconst (v := 3) hx hb dX5_reasonToStay_58 (by decide) ?_
                  have hs : sX5_reasonToStay w c = 3 := by unfold sX5_reasonToStay; rw [oe_some o_5, oe_none o_17, if_neg c_33, oe_some o_41, if_neg c_45, oe_none o_51]
                  exact fin hJ (by rw [hs]) dX5_reasonToStay_59
              · skip
                have hq5 := waiterAt_some (hcn) o_51
                refine lv_aload_n hx hb dX5_reasonToStay_54 rfl (lv_at hl 3 rfl) ?_
                refine lv_acmp_eq (rx := some (B + (wo k + (17 + 3 * q5)))) (ry := some (B + (wo k + (17 + 3 * c)))) (tgt := 60) hx hb dX5_reasonToStay_55 (by decide) (fun c_55 => ?_) (fun c_55 => ?_)
                · have c_55 : q5 = c := by have := Option.some.inj c_55; omega
                  refine lv_aload_n hx hb dX5_reasonToStay_60 rfl (lv_at hl 2 rfl) ?_
                  refine lv_aload_n hx hb dX5_reasonToStay_61 rfl (lv_at hl 1 rfl) ?_
                  refine kX5_152 X hJ (mX5_isTied l E B _ k q1 w (by omega) (by omega) hw (hcn)) rfl (lt_W0 (by omega)) (at_W (by omega) rfl) hl.1 ⟨Nat.le_of_ble_eq_true rfl, Nat.le_of_ble_eq_true rfl⟩ ⟨Nat.le_refl _, Nat.le_refl _⟩ (rest := []) rfl (Nat.le_of_ble_eq_true rfl) dX5_reasonToStay_62 (fun H locs hJ => ?_)
                  refine lv_if_ne (tgt := 70) hx hb dX5_reasonToStay_65 (by decide) (fun c_65 => ?_) (fun c_65 => ?_)
                  · skip
                    refine lv_aload_nN hx hb dX5_reasonToStay_70 rfl (lv_at hl 0 rfl) ?_
                    refine lv_ifnonnullN hx hb dX5_reasonToStay_71 ?_
                    refine lv_bipush (v := 6) hx hb dX5_reasonToStay_74 (by decide) ?_
                    refine lv_goto (tgt := 80) hx hb dX5_reasonToStay_76 (by decide) ?_
                    have hs : sX5_reasonToStay w c = 6 := by unfold sX5_reasonToStay; rw [oe_some o_5, oe_none o_17, if_neg c_33, oe_some o_41, if_neg c_45, oe_some o_51, if_pos c_55, if_neg c_65]
                    exact fin hJ (by rw [hs]) dX5_reasonToStay_80
                  · skip
                    refine lv_iconst (v := 4) hx hb dX5_reasonToStay_68 (by decide) ?_
                    have hs : sX5_reasonToStay w c = 4 := by unfold sX5_reasonToStay; rw [oe_some o_5, oe_none o_17, if_neg c_33, oe_some o_41, if_neg c_45, oe_some o_51, if_pos c_55, if_pos c_65]
                    exact fin hJ (by rw [hs]) dX5_reasonToStay_69
                · have c_55 : ¬ q5 = c := fun q => c_55 (by rw [q])
                  refine lv_iconst (v := 3) hx hb dX5_reasonToStay_58 (by decide) ?_
                  have hs : sX5_reasonToStay w c = 3 := by unfold sX5_reasonToStay; rw [oe_some o_5, oe_none o_17, if_neg c_33, oe_some o_41, if_neg c_45, oe_some o_51, if_neg c_55]
                  exact fin hJ (by rw [hs]) dX5_reasonToStay_59
        · skip
          refine lv_iconst (v := 2) hx hb dX5_reasonToStay_36 (by decide) ?_
          have hs : sX5_reasonToStay w c = 2 := by unfold sX5_reasonToStay; rw [oe_some o_5, oe_none o_17, if_pos c_33]
          exact fin hJ (by rw [hs]) dX5_reasonToStay_37
      · exact absurd c_23 (by simp)
    · skip
      have hq2 := comerOver_some (by omega) (hcn) o_17
      refine lv_astore_n (lv' := [(3, .ref (B + (wo k + (17 + 3 * q2)))), (2, .ref (B + (wo k + (5 + q1)))), (0, .ref (B + wo k)), (1, .ref (B + (wo k + (17 + 3 * c))))]) hx hb dX5_reasonToStay_20 rfl hl (by decide) rfl (fun ls hl => ?_)
      refine lv_aload_n hx hb dX5_reasonToStay_21 rfl (lv_at hl 0 rfl) ?_
      refine lv_aload_n hx hb dX5_reasonToStay_22 rfl (lv_at hl 3 rfl) ?_
      refine lv_acmp_ne (rx := some (B + (wo k + (17 + 3 * q2)))) (ry := some (B + (wo k + (17 + 3 * c)))) (tgt := 28) hx hb dX5_reasonToStay_23 (by decide) (fun c_23 => ?_) (fun c_23 => ?_)
      · have c_23 : ¬ q2 = c := fun q => c_23 (by rw [q])
        refine lv_aload_n hx hb dX5_reasonToStay_28 rfl (lv_at hl 1 rfl) ?_
        refine gX5_124 X hJ (k := k) (w := w) (by omega) (i := q1) (by omega)  hw dX5_reasonToStay_29 ?_
        refine lv_iconst (v := 1) hx hb dX5_reasonToStay_32 (by decide) ?_
        refine lv_icmp_ne (tgt := 38) hx hb dX5_reasonToStay_33 (by decide) (fun c_33 => ?_) (fun c_33 => ?_)
        · skip
          refine lv_aload_n hx hb dX5_reasonToStay_38 rfl (lv_at hl 2 rfl) ?_
          refine lv_aload_n hx hb dX5_reasonToStay_39 rfl (lv_at hl 1 rfl) ?_
          refine lv_iconst (v := 0) hx hb dX5_reasonToStay_40 (by decide) ?_
          refine kX5_183 X hJ (mX5_waiterAt l E B _ k q1 0 w (by omega) (by omega) hw (hcn)) rfl (lt_W0 (by omega)) (at_W (by omega) rfl) hl.1 ⟨Nat.le_of_ble_eq_true rfl, Nat.le_of_ble_eq_true rfl⟩ ⟨Nat.le_refl _, Nat.le_refl _⟩ (rest := []) rfl (Nat.le_of_ble_eq_true rfl) dX5_reasonToStay_41 (fun H locs hJ => ?_)
          rcases o_41 : sX5_waiterAt w q1 0 with _ | q6
          · skip
            refine lv_aload_n hx hb dX5_reasonToStay_44 rfl (lv_at hl 3 rfl) ?_
            refine lv_acmp_eq (rx := none) (ry := some (B + (wo k + (17 + 3 * c)))) (tgt := 60) hx hb dX5_reasonToStay_45 (by decide) (fun c_45 => ?_) (fun c_45 => ?_)
            · exact absurd c_45 (by simp)
            · skip
              refine lv_aload_n hx hb dX5_reasonToStay_48 rfl (lv_at hl 2 rfl) ?_
              refine lv_aload_n hx hb dX5_reasonToStay_49 rfl (lv_at hl 1 rfl) ?_
              refine lv_iconst (v := 1) hx hb dX5_reasonToStay_50 (by decide) ?_
              refine kX5_183 X hJ (mX5_waiterAt l E B _ k q1 1 w (by omega) (by omega) hw (hcn)) rfl (lt_W0 (by omega)) (at_W (by omega) rfl) hl.1 ⟨Nat.le_of_ble_eq_true rfl, Nat.le_of_ble_eq_true rfl⟩ ⟨Nat.le_refl _, Nat.le_refl _⟩ (rest := []) rfl (Nat.le_of_ble_eq_true rfl) dX5_reasonToStay_51 (fun H locs hJ => ?_)
              rcases o_51 : sX5_waiterAt w q1 1 with _ | q7
              · skip
                refine lv_aload_n hx hb dX5_reasonToStay_54 rfl (lv_at hl 3 rfl) ?_
                refine lv_acmp_eq (rx := none) (ry := some (B + (wo k + (17 + 3 * c)))) (tgt := 60) hx hb dX5_reasonToStay_55 (by decide) (fun c_55 => ?_) (fun c_55 => ?_)
                · exact absurd c_55 (by simp)
                · skip
                  refine lv_iconst (v := 3) hx hb dX5_reasonToStay_58 (by decide) ?_
                  have hs : sX5_reasonToStay w c = 3 := by unfold sX5_reasonToStay; rw [oe_some o_5, oe_some o_17, if_neg c_23, if_neg c_33, oe_none o_41, oe_none o_51]
                  exact fin hJ (by rw [hs]) dX5_reasonToStay_59
              · skip
                have hq7 := waiterAt_some (hcn) o_51
                refine lv_aload_n hx hb dX5_reasonToStay_54 rfl (lv_at hl 3 rfl) ?_
                refine lv_acmp_eq (rx := some (B + (wo k + (17 + 3 * q7)))) (ry := some (B + (wo k + (17 + 3 * c)))) (tgt := 60) hx hb dX5_reasonToStay_55 (by decide) (fun c_55 => ?_) (fun c_55 => ?_)
                · have c_55 : q7 = c := by have := Option.some.inj c_55; omega
                  refine lv_aload_n hx hb dX5_reasonToStay_60 rfl (lv_at hl 2 rfl) ?_
                  refine lv_aload_n hx hb dX5_reasonToStay_61 rfl (lv_at hl 1 rfl) ?_
                  refine kX5_152 X hJ (mX5_isTied l E B _ k q1 w (by omega) (by omega) hw (hcn)) rfl (lt_W0 (by omega)) (at_W (by omega) rfl) hl.1 ⟨Nat.le_of_ble_eq_true rfl, Nat.le_of_ble_eq_true rfl⟩ ⟨Nat.le_refl _, Nat.le_refl _⟩ (rest := []) rfl (Nat.le_of_ble_eq_true rfl) dX5_reasonToStay_62 (fun H locs hJ => ?_)
                  refine lv_if_ne (tgt := 70) hx hb dX5_reasonToStay_65 (by decide) (fun c_65 => ?_) (fun c_65 => ?_)
                  · skip
                    refine lv_aload_n hx hb dX5_reasonToStay_70 rfl (lv_at hl 0 rfl) ?_
                    refine lv_ifnonnull (tgt := 79) hx hb dX5_reasonToStay_71 (by decide) ?_
                    refine lv_iconst (v := 5) hx hb dX5_reasonToStay_79 (by decide) ?_
                    have hs : sX5_reasonToStay w c = 5 := by unfold sX5_reasonToStay; rw [oe_some o_5, oe_some o_17, if_neg c_23, if_neg c_33, oe_none o_41, oe_some o_51, if_pos c_55, if_neg c_65]
                    exact fin hJ (by rw [hs]) dX5_reasonToStay_80
                  · skip
                    refine lv_iconst (v := 4) hx hb dX5_reasonToStay_68 (by decide) ?_
                    have hs : sX5_reasonToStay w c = 4 := by unfold sX5_reasonToStay; rw [oe_some o_5, oe_some o_17, if_neg c_23, if_neg c_33, oe_none o_41, oe_some o_51, if_pos c_55, if_pos c_65]
                    exact fin hJ (by rw [hs]) dX5_reasonToStay_69
                · have c_55 : ¬ q7 = c := fun q => c_55 (by rw [q])
                  refine lv_iconst (v := 3) hx hb dX5_reasonToStay_58 (by decide) ?_
                  have hs : sX5_reasonToStay w c = 3 := by unfold sX5_reasonToStay; rw [oe_some o_5, oe_some o_17, if_neg c_23, if_neg c_33, oe_none o_41, oe_some o_51, if_neg c_55]
                  exact fin hJ (by rw [hs]) dX5_reasonToStay_59
          · skip
            have hq6 := waiterAt_some (hcn) o_41
            refine lv_aload_n hx hb dX5_reasonToStay_44 rfl (lv_at hl 3 rfl) ?_
            refine lv_acmp_eq (rx := some (B + (wo k + (17 + 3 * q6)))) (ry := some (B + (wo k + (17 + 3 * c)))) (tgt := 60) hx hb dX5_reasonToStay_45 (by decide) (fun c_45 => ?_) (fun c_45 => ?_)
            · have c_45 : q6 = c := by have := Option.some.inj c_45; omega
              refine lv_aload_n hx hb dX5_reasonToStay_60 rfl (lv_at hl 2 rfl) ?_
              refine lv_aload_n hx hb dX5_reasonToStay_61 rfl (lv_at hl 1 rfl) ?_
              refine kX5_152 X hJ (mX5_isTied l E B _ k q1 w (by omega) (by omega) hw (hcn)) rfl (lt_W0 (by omega)) (at_W (by omega) rfl) hl.1 ⟨Nat.le_of_ble_eq_true rfl, Nat.le_of_ble_eq_true rfl⟩ ⟨Nat.le_refl _, Nat.le_refl _⟩ (rest := []) rfl (Nat.le_of_ble_eq_true rfl) dX5_reasonToStay_62 (fun H locs hJ => ?_)
              refine lv_if_ne (tgt := 70) hx hb dX5_reasonToStay_65 (by decide) (fun c_65 => ?_) (fun c_65 => ?_)
              · skip
                refine lv_aload_n hx hb dX5_reasonToStay_70 rfl (lv_at hl 0 rfl) ?_
                refine lv_ifnonnull (tgt := 79) hx hb dX5_reasonToStay_71 (by decide) ?_
                refine lv_iconst (v := 5) hx hb dX5_reasonToStay_79 (by decide) ?_
                have hs : sX5_reasonToStay w c = 5 := by unfold sX5_reasonToStay; rw [oe_some o_5, oe_some o_17, if_neg c_23, if_neg c_33, oe_some o_41, if_pos c_45, if_neg c_65]
                exact fin hJ (by rw [hs]) dX5_reasonToStay_80
              · skip
                refine lv_iconst (v := 4) hx hb dX5_reasonToStay_68 (by decide) ?_
                have hs : sX5_reasonToStay w c = 4 := by unfold sX5_reasonToStay; rw [oe_some o_5, oe_some o_17, if_neg c_23, if_neg c_33, oe_some o_41, if_pos c_45, if_pos c_65]
                exact fin hJ (by rw [hs]) dX5_reasonToStay_69
            · have c_45 : ¬ q6 = c := fun q => c_45 (by rw [q])
              refine lv_aload_n hx hb dX5_reasonToStay_48 rfl (lv_at hl 2 rfl) ?_
              refine lv_aload_n hx hb dX5_reasonToStay_49 rfl (lv_at hl 1 rfl) ?_
              refine lv_iconst (v := 1) hx hb dX5_reasonToStay_50 (by decide) ?_
              refine kX5_183 X hJ (mX5_waiterAt l E B _ k q1 1 w (by omega) (by omega) hw (hcn)) rfl (lt_W0 (by omega)) (at_W (by omega) rfl) hl.1 ⟨Nat.le_of_ble_eq_true rfl, Nat.le_of_ble_eq_true rfl⟩ ⟨Nat.le_refl _, Nat.le_refl _⟩ (rest := []) rfl (Nat.le_of_ble_eq_true rfl) dX5_reasonToStay_51 (fun H locs hJ => ?_)
              rcases o_51 : sX5_waiterAt w q1 1 with _ | q8
              · skip
                refine lv_aload_n hx hb dX5_reasonToStay_54 rfl (lv_at hl 3 rfl) ?_
                refine lv_acmp_eq (rx := none) (ry := some (B + (wo k + (17 + 3 * c)))) (tgt := 60) hx hb dX5_reasonToStay_55 (by decide) (fun c_55 => ?_) (fun c_55 => ?_)
                · exact absurd c_55 (by simp)
                · skip
                  refine lv_iconst (v := 3) hx hb dX5_reasonToStay_58 (by decide) ?_
                  have hs : sX5_reasonToStay w c = 3 := by unfold sX5_reasonToStay; rw [oe_some o_5, oe_some o_17, if_neg c_23, if_neg c_33, oe_some o_41, if_neg c_45, oe_none o_51]
                  exact fin hJ (by rw [hs]) dX5_reasonToStay_59
              · skip
                have hq8 := waiterAt_some (hcn) o_51
                refine lv_aload_n hx hb dX5_reasonToStay_54 rfl (lv_at hl 3 rfl) ?_
                refine lv_acmp_eq (rx := some (B + (wo k + (17 + 3 * q8)))) (ry := some (B + (wo k + (17 + 3 * c)))) (tgt := 60) hx hb dX5_reasonToStay_55 (by decide) (fun c_55 => ?_) (fun c_55 => ?_)
                · have c_55 : q8 = c := by have := Option.some.inj c_55; omega
                  refine lv_aload_n hx hb dX5_reasonToStay_60 rfl (lv_at hl 2 rfl) ?_
                  refine lv_aload_n hx hb dX5_reasonToStay_61 rfl (lv_at hl 1 rfl) ?_
                  refine kX5_152 X hJ (mX5_isTied l E B _ k q1 w (by omega) (by omega) hw (hcn)) rfl (lt_W0 (by omega)) (at_W (by omega) rfl) hl.1 ⟨Nat.le_of_ble_eq_true rfl, Nat.le_of_ble_eq_true rfl⟩ ⟨Nat.le_refl _, Nat.le_refl _⟩ (rest := []) rfl (Nat.le_of_ble_eq_true rfl) dX5_reasonToStay_62 (fun H locs hJ => ?_)
                  refine lv_if_ne (tgt := 70) hx hb dX5_reasonToStay_65 (by decide) (fun c_65 => ?_) (fun c_65 => ?_)
                  · skip
                    refine lv_aload_n hx hb dX5_reasonToStay_70 rfl (lv_at hl 0 rfl) ?_
                    refine lv_ifnonnull (tgt := 79) hx hb dX5_reasonToStay_71 (by decide) ?_
                    refine lv_iconst (v := 5) hx hb dX5_reasonToStay_79 (by decide) ?_
                    have hs : sX5_reasonToStay w c = 5 := by unfold sX5_reasonToStay; rw [oe_some o_5, oe_some o_17, if_neg c_23, if_neg c_33, oe_some o_41, if_neg c_45, oe_some o_51, if_pos c_55, if_neg c_65]
                    exact fin hJ (by rw [hs]) dX5_reasonToStay_80
                  · skip
                    refine lv_iconst (v := 4) hx hb dX5_reasonToStay_68 (by decide) ?_
                    have hs : sX5_reasonToStay w c = 4 := by unfold sX5_reasonToStay; rw [oe_some o_5, oe_some o_17, if_neg c_23, if_neg c_33, oe_some o_41, if_neg c_45, oe_some o_51, if_pos c_55, if_pos c_65]
                    exact fin hJ (by rw [hs]) dX5_reasonToStay_69
                · have c_55 : ¬ q8 = c := fun q => c_55 (by rw [q])
                  refine lv_iconst (v := 3) hx hb dX5_reasonToStay_58 (by decide) ?_
                  have hs : sX5_reasonToStay w c = 3 := by unfold sX5_reasonToStay; rw [oe_some o_5, oe_some o_17, if_neg c_23, if_neg c_33, oe_some o_41, if_neg c_45, oe_some o_51, if_neg c_55]
                  exact fin hJ (by rw [hs]) dX5_reasonToStay_59
        · skip
          refine lv_iconst (v := 2) hx hb dX5_reasonToStay_36 (by decide) ?_
          have hs : sX5_reasonToStay w c = 2 := by unfold sX5_reasonToStay; rw [oe_some o_5, oe_some o_17, if_neg c_23, if_pos c_33]
          exact fin hJ (by rw [hs]) dX5_reasonToStay_37
      · have c_23 : q2 = c := by have := Option.some.inj c_23; omega
        refine lv_iconst (v := 0) hx hb dX5_reasonToStay_26 (by decide) ?_
        have hs : sX5_reasonToStay w c = 0 := by unfold sX5_reasonToStay; rw [oe_some o_5, oe_some o_17, if_pos c_23]
        exact fin hJ (by rw [hs]) dX5_reasonToStay_27

