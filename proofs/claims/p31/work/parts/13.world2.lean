def bX5_drawRiddle_29  (i : Nat) : Nat → Row → Nat → Row
  | 0, w29, _ => w29
  | n + 1, w29, p => if 8 ≤ nI p then (w29) else (bX5_drawRiddle_29 i n (sX1_forget w29 p i) (p + 1))
def sX5_drawRiddle (w : Row) (i : Nat) : Row := bX5_drawRiddle_29 i 9 (sX0_takeRiddle (upd w (7) (((75 * (w 7)) + 74) - ((75 * (w 7)) + 74) / 65537 * 65537)) i (((upd w (7) (((75 * (w 7)) + 74) - ((75 * (w 7)) + 74) / 65537 * 65537)) 7) / 2)) 0
set_option maxHeartbeats 4000000 in
set_option maxRecDepth 100000 in
theorem mX5_drawRiddle (l : Launch) (E : EE) (B : Nat) (g : GS) (k : Nat) (i : Nat) (w : Row) (hk : k < 11) (hi : i < 12) : CG l yX5_drawRiddle cX5_drawRiddle 3 none 1 21 E B [.ref (B + wo k), .ref (B + (wo k + (5 + i)))] (upW g k w) none (upW g k (sX5_drawRiddle w i)) := by
  refine mkV (own := RX5) rfl (by decide) rfl (Nat.le_of_ble_eq_true rfl) (fun P_ e_ s_ m_ a_ below meth cd Q X _ fin ls hl hJ => ?_)
  have hx := X.1
  have hb := X.2.1
  have hl : lv_has ls 3 [(0, .ref (B + wo k)), (1, .ref (B + (wo k + (5 + i))))] := hl
  have bk_29 : ∀ (n : Nat) (w29 : Row)  (p : Nat), 8 - p < n → (p ≤ 8) → ∀ (H : Heap) (locs : List Loc) (ls : Array Slot), JG E B s_ (upW g k w29) H locs → lv_has ls 3 [(0, .ref (B + wo k)), (1, .ref (B + (wo k + (5 + i)))), (2, .int (nI p))] → sX5_drawRiddle w i = bX5_drawRiddle_29 i n w29 p → W P_ l e_ (rmm 1 21 0 0) s_ m_ a_ below meth cd H locs 0 0 Q (F0 m_ 29 ls []) := by
    intro n
    induction n with
    | zero => intro w29 p hm; exact absurd hm (Nat.not_lt_zero _)
    | succ n ih =>
      intro w29 p hm hp H locs ls hJ hl hs
      refine lv_iload_n hx hb dX5_drawRiddle_29 rfl (lv_at hl 2 rfl) ?_
      refine lv_bipush (v := 8) hx hb dX5_drawRiddle_30 (by decide) ?_
      refine lv_icmp_ge (tgt := 51) hx hb dX5_drawRiddle_32 (by decide) (fun c_32 => ?_) (fun c_32 => ?_)
      · skip
        have hs : sX5_drawRiddle w i = w29 := hs.trans (by rw [bX5_drawRiddle_29, if_pos c_32])
        exact fin (by rw [hs]; exact hJ) dX5_drawRiddle_51
      · skip
        have hp2 := lit_lt (n := 8) c_32 (by omega) (by omega)
        refine lv_aload_n hx hb dX5_drawRiddle_35 rfl (lv_at hl 0 rfl) ?_
        refine gX5_23 X hJ (k := k) (w := w29) (by omega) upW_1 dX5_drawRiddle_36 ?_
        refine lv_iload_n hx hb dX5_drawRiddle_39 rfl (lv_at hl 2 rfl) ?_
        refine ld_cts X hJ (k := k) (by omega) (j := p) (rfl) (by omega) dX5_drawRiddle_40 ?_
        refine lv_aload_n hx hb dX5_drawRiddle_41 rfl (lv_at hl 1 rfl) ?_
        refine kX5_198 X hJ (mX1_forget l E B _ k p i w29 (by omega) (by omega) (by omega)) rfl (lt_W (by omega) (by omega)) (at_C (by omega) (by omega) upW_1) hl.1 ⟨Nat.le_of_ble_eq_true rfl, Nat.le_of_ble_eq_true rfl⟩ ⟨Nat.le_refl _, Nat.le_refl _⟩ (rest := []) rfl (Nat.le_of_ble_eq_true rfl) dX5_drawRiddle_42 (fun H locs hJ => ?_)
        refine lv_iinc (v := nI (p + 1)) (lv' := [(2, .int (nI (p + 1))), (0, .ref (B + wo k)), (1, .ref (B + (wo k + (5 + i))))]) hx hb dX5_drawRiddle_45 hl (k := 2) rfl (by first | exact nI_add _ _ | rfl) (by decide) rfl (fun ls hl => ?_)
        refine lv_goto (tgt := 29) hx hb dX5_drawRiddle_48 (by decide) ?_
        have hs : sX5_drawRiddle w i = bX5_drawRiddle_29 i n (sX1_forget w29 p i) (p + 1) := hs.trans (by rw [bX5_drawRiddle_29, if_neg c_32])
        exact ih (sX1_forget w29 p i) (p + 1) (by omega) (by omega) _ _ _ hJ (lv_sub hl [1, 2, 0] rfl) hs
  refine lv_aload_n hx hb dX5_drawRiddle_0 rfl (lv_at hl 0 rfl) ?_
  refine lv_bipush (v := 75) hx hb dX5_drawRiddle_1 (by decide) ?_
  refine lv_aload_n hx hb dX5_drawRiddle_3 rfl (lv_at hl 0 rfl) ?_
  refine gX5_30 X hJ (k := k) (w := w) (by omega) upW_1 dX5_drawRiddle_4 ?_
  refine lv_imul hx hb dX5_drawRiddle_7 ?_
  refine lv_bipush (v := 74) hx hb dX5_drawRiddle_8 (by decide) ?_
  refine lv_iadd hx hb dX5_drawRiddle_10 ?_
  refine lv_ldc (own := RX5) hx hb X.2.2.2.1 (X.2.2.2.2.1 (.constant RX5 194 65537) (tw (i := 281) (by decide +kernel) (by decide))) dX5_drawRiddle_11 ?_
  refine lv_irem hx hb dX5_drawRiddle_13 (by decide) ?_
  refine pX5_30 X hJ (k := k) (by omega) dX5_drawRiddle_14 (fun H locs hJ => ?_)
  refine lv_aload_n hx hb dX5_drawRiddle_17 rfl (lv_at hl 1 rfl) ?_
  refine lv_aload_n hx hb dX5_drawRiddle_18 rfl (lv_at hl 0 rfl) ?_
  refine gX5_30 X hJ (k := k) (w := upd w (7) (((75 * (w 7)) + 74) - ((75 * (w 7)) + 74) / 65537 * 65537)) (by omega) upW_1 dX5_drawRiddle_19 ?_
  refine lv_iconst (v := 2) hx hb dX5_drawRiddle_22 (by decide) ?_
  refine lv_idiv hx hb dX5_drawRiddle_23 (by decide) ?_
  refine kX5_195 X hJ (mX0_takeRiddle l E B _ k i (((upd w (7) (((75 * (w 7)) + 74) - ((75 * (w 7)) + 74) / 65537 * 65537)) 7) / 2) (upd w (7) (((75 * (w 7)) + 74) - ((75 * (w 7)) + 74) / 65537 * 65537)) (by omega) (by omega)) rfl (lt_W (by omega) (by omega)) (at_B (by omega) (by omega) upW_1) hl.1 ⟨Nat.le_of_ble_eq_true rfl, Nat.le_of_ble_eq_true rfl⟩ ⟨Nat.le_refl _, Nat.le_refl _⟩ (rest := []) rfl (Nat.le_of_ble_eq_true rfl) dX5_drawRiddle_24 (fun H locs hJ => ?_)
  refine lv_iconst (v := 0) hx hb dX5_drawRiddle_27 (by decide) ?_
  refine lv_istore_n (lv' := [(2, .int 0), (0, .ref (B + wo k)), (1, .ref (B + (wo k + (5 + i))))]) hx hb dX5_drawRiddle_28 rfl hl (by decide) rfl (fun ls hl => ?_)
  have hs : sX5_drawRiddle w i = bX5_drawRiddle_29 i 9 (sX0_takeRiddle (upd w (7) (((75 * (w 7)) + 74) - ((75 * (w 7)) + 74) / 65537 * 65537)) i (((upd w (7) (((75 * (w 7)) + 74) - ((75 * (w 7)) + 74) / 65537 * 65537)) 7) / 2)) 0 := by unfold sX5_drawRiddle; rfl
  exact bk_29 9 (sX0_takeRiddle (upd w (7) (((75 * (w 7)) + 74) - ((75 * (w 7)) + 74) / 65537 * 65537)) i (((upd w (7) (((75 * (w 7)) + 74) - ((75 * (w 7)) + 74) / 65537 * 65537)) 7) / 2)) 0 (by omega) (by omega) _ _ _ hJ (lv_sub hl [1, 2, 0] rfl) hs

theorem Cn_drawRiddle {w : Row} {i : Nat} (hi : i < 12) (h : Cn w) : Cn (sX5_drawRiddle w i) := by
  have key : ∀ (n : Nat) (w : Row) (p : Nat), p ≤ 8 → Cn w → Cn (bX5_drawRiddle_29 i n w p) := by
    intro n
    induction n with
    | zero => intro w p _ h; exact h
    | succ n ih =>
      intro w p hp h
      rw [bX5_drawRiddle_29]
      by_cases h1 : 8 ≤ nI p
      · rw [if_pos h1]; exact h
      · rw [if_neg h1]
        have := lit_lt (n := 8) h1 (by omega) (by omega)
        exact ih _ _ (by omega) (Cn_forget (by omega) hi h)
  unfold sX5_drawRiddle
  exact key _ _ _ (by omega) (Cn_takeRiddle hi (Cn_upd (by omega) (by omega) (by omega) h))
def bX5_release_5  (c : Nat) (i : Nat) : Nat → Row → Nat → Nat → Row
  | 0, w5, _, _ => w5
  | n + 1, w5, z, p => if w5 10 ≤ nI p then (upd (upd (upd (upd (upd w5 (10) (nI z)) (104 + 8 * c + 2) (-6)) (104 + 8 * c + 3) (-6)) (104 + 8 * c + 4) 0) (360 + i) (((upd (upd (upd (upd w5 (10) (nI z)) (104 + 8 * c + 2) (-6)) (104 + 8 * c + 3) (-6)) (104 + 8 * c + 4) 0) (360 + i)) - 1)) else (if w5 (12 + p) = nI c then (bX5_release_5 c i n w5 z (p + 1)) else (bX5_release_5 c i n (upd w5 (12 + z) (w5 (12 + p))) (z + 1) (p + 1)))
def sX5_release (w : Row) (c : Nat) (i : Nat) : Row := bX5_release_5 c i 9 w 0 0
set_option maxHeartbeats 4000000 in
set_option maxRecDepth 100000 in
theorem mX5_release (l : Launch) (E : EE) (B : Nat) (g : GS) (k : Nat) (c : Nat) (i : Nat) (w : Row) (hk : k < 11) (hc : c < 8) (hi : i < 12) (hcn : Cn w) : CG l yX5_release cX5_release 5 none 0 0 E B [.ref (B + wo k), .ref (B + (wo k + (17 + 3 * c))), .ref (B + (wo k + (5 + i)))] (upW g k w) none (upW g k (sX5_release w c i)) := by
  refine mkV (own := RX5) rfl (by decide) rfl (Nat.le_of_ble_eq_true rfl) (fun P_ e_ s_ m_ a_ below meth cd Q X _ fin ls hl hJ => ?_)
  have hx := X.1
  have hb := X.2.1
  have hl : lv_has ls 5 [(0, .ref (B + wo k)), (1, .ref (B + (wo k + (17 + 3 * c)))), (2, .ref (B + (wo k + (5 + i))))] := hl
  have bk_5 : ∀ (n : Nat) (w5 : Row)  (z : Nat)  (p : Nat), 8 - p < n → (Cn w5) → (p ≤ 8 ∧ z ≤ p) → ∀ (H : Heap) (locs : List Loc) (ls : Array Slot), JG E B s_ (upW g k w5) H locs → lv_has ls 5 [(0, .ref (B + wo k)), (1, .ref (B + (wo k + (17 + 3 * c)))), (2, .ref (B + (wo k + (5 + i)))), (3, .int (nI z)), (4, .int (nI p))] → sX5_release w c i = bX5_release_5 c i n w5 z p → W P_ l e_ (rmm 0 0 0 0) s_ m_ a_ below meth cd H locs 0 0 Q (F0 m_ 5 ls []) := by
    intro n
    induction n with
    | zero => intro w5 z p hm; exact absurd hm (Nat.not_lt_zero _)
    | succ n ih =>
      intro w5 z p hm hcn hp H locs ls hJ hl hs
      refine lv_iload hx hb dX5_release_5 (lv_at hl 4 rfl) ?_
      refine lv_aload_n hx hb dX5_release_7 rfl (lv_at hl 0 rfl) ?_
      refine gX5_54 X hJ (k := k) (w := w5) (by omega) upW_1 dX5_release_8 ?_
      refine lv_icmp_ge (tgt := 50) hx hb dX5_release_11 (by decide) (fun c_11 => ?_) (fun c_11 => ?_)
      · skip
        refine lv_aload_n hx hb dX5_release_50 rfl (lv_at hl 0 rfl) ?_
        refine lv_iload_n hx hb dX5_release_51 rfl (lv_at hl 3 rfl) ?_
        refine pX5_54 X hJ (k := k) (by omega) dX5_release_52 (fun H locs hJ => ?_)
        refine lv_aload_n hx hb dX5_release_55 rfl (lv_at hl 1 rfl) ?_
        refine lv_bipush (v := (-6)) hx hb dX5_release_56 (by decide) ?_
        refine pX5_118 X hJ (k := k) (by omega) (i := c) (by omega) dX5_release_58 (fun H locs hJ => ?_)
        refine lv_aload_n hx hb dX5_release_61 rfl (lv_at hl 1 rfl) ?_
        refine lv_bipush (v := (-6)) hx hb dX5_release_62 (by decide) ?_
        refine pX5_121 X hJ (k := k) (by omega) (i := c) (by omega) dX5_release_64 (fun H locs hJ => ?_)
        refine lv_aload_n hx hb dX5_release_67 rfl (lv_at hl 1 rfl) ?_
        refine lv_iconst (v := 0) hx hb dX5_release_68 (by decide) ?_
        refine pX5_149 X hJ (k := k) (by omega) (i := c) (by omega) dX5_release_69 (fun H locs hJ => ?_)
        refine lv_aload_n hx hb dX5_release_72 rfl (lv_at hl 2 rfl) ?_
        refine lv_dup hx hb dX5_release_73 rfl ?_
        refine gX5_124 X hJ (k := k) (w := upd (upd (upd (upd w5 (10) (nI z)) (104 + 8 * c + 2) (-6)) (104 + 8 * c + 3) (-6)) (104 + 8 * c + 4) 0) (by omega) (i := i) (by omega)  upW_1 dX5_release_74 ?_
        refine lv_iconst (v := 1) hx hb dX5_release_77 (by decide) ?_
        refine lv_isub hx hb dX5_release_78 ?_
        refine pX5_124 X hJ (k := k) (by omega) (i := i) (by omega) dX5_release_79 (fun H locs hJ => ?_)
        have hs : sX5_release w c i = upd (upd (upd (upd (upd w5 (10) (nI z)) (104 + 8 * c + 2) (-6)) (104 + 8 * c + 3) (-6)) (104 + 8 * c + 4) 0) (360 + i) (((upd (upd (upd (upd w5 (10) (nI z)) (104 + 8 * c + 2) (-6)) (104 + 8 * c + 3) (-6)) (104 + 8 * c + 4) 0) (360 + i)) - 1) := hs.trans (by rw [bX5_release_5, if_pos c_11])
        exact fin (by rw [hs]; exact hJ) dX5_release_82
      · skip
        have hp2 := Cn.lt10 hcn (by omega) c_11
        refine lv_aload_n hx hb dX5_release_14 rfl (lv_at hl 0 rfl) ?_
        refine gX5_27 X hJ (k := k) (w := w5) (by omega) upW_1 dX5_release_15 ?_
        refine lv_iload hx hb dX5_release_18 (lv_at hl 4 rfl) ?_
        refine ld_line X hJ (k := k) (w := w5) (by omega) upW_1 (j := p) (rfl) (by omega) dX5_release_20 ?_
        refine lv_aload_n hx hb dX5_release_21 rfl (lv_at hl 1 rfl) ?_
        refine gX5_101 X hJ (k := k) (w := w5) (by omega) (i := c) (by omega)  upW_1 dX5_release_22 ?_
        refine lv_icmp_eq (tgt := 44) hx hb dX5_release_25 (by decide) (fun c_25 => ?_) (fun c_25 => ?_)
        · skip
          refine lv_iinc (v := nI (p + 1)) (lv' := [(4, .int (nI (p + 1))), (0, .ref (B + wo k)), (1, .ref (B + (wo k + (17 + 3 * c)))), (2, .ref (B + (wo k + (5 + i)))), (3, .int (nI z))]) hx hb dX5_release_44 hl (k := 4) rfl (by first | exact nI_add _ _ | rfl) (by decide) rfl (fun ls hl => ?_)
          refine lv_goto (tgt := 5) hx hb dX5_release_47 (by decide) ?_
          have hs : sX5_release w c i = bX5_release_5 c i n w5 z (p + 1) := hs.trans (by rw [bX5_release_5, if_neg c_11, if_pos c_25])
          exact ih w5 z (p + 1) (by omega) (hcn) (by omega) _ _ _ hJ (lv_sub hl [1, 2, 3, 4, 0] rfl) hs
        · skip
          refine lv_aload_n hx hb dX5_release_28 rfl (lv_at hl 0 rfl) ?_
          refine gX5_27 X hJ (k := k) (w := w5) (by omega) upW_1 dX5_release_29 ?_
          refine lv_iload_n hx hb dX5_release_32 rfl (lv_at hl 3 rfl) ?_
          refine lv_aload_n hx hb dX5_release_33 rfl (lv_at hl 0 rfl) ?_
          refine gX5_27 X hJ (k := k) (w := w5) (by omega) upW_1 dX5_release_34 ?_
          refine lv_iload hx hb dX5_release_37 (lv_at hl 4 rfl) ?_
          refine ld_line X hJ (k := k) (w := w5) (by omega) upW_1 (j := p) (rfl) (by omega) dX5_release_39 ?_
          refine st_line X hJ (k := k) (by omega) (j := z) (rfl) (by omega) dX5_release_40 (fun H locs hJ => ?_)
          refine lv_iinc (v := nI (z + 1)) (lv' := [(3, .int (nI (z + 1))), (0, .ref (B + wo k)), (1, .ref (B + (wo k + (17 + 3 * c)))), (2, .ref (B + (wo k + (5 + i)))), (4, .int (nI p))]) hx hb dX5_release_41 hl (k := 3) rfl (by first | exact nI_add _ _ | rfl) (by decide) rfl (fun ls hl => ?_)
          refine lv_iinc (v := nI (p + 1)) (lv' := [(4, .int (nI (p + 1))), (3, .int (nI (z + 1))), (0, .ref (B + wo k)), (1, .ref (B + (wo k + (17 + 3 * c)))), (2, .ref (B + (wo k + (5 + i))))]) hx hb dX5_release_44 hl (k := 4) rfl (by first | exact nI_add _ _ | rfl) (by decide) rfl (fun ls hl => ?_)
          refine lv_goto (tgt := 5) hx hb dX5_release_47 (by decide) ?_
          have hs : sX5_release w c i = bX5_release_5 c i n (upd w5 (12 + z) (w5 (12 + p))) (z + 1) (p + 1) := hs.trans (by rw [bX5_release_5, if_neg c_11, if_neg c_25])
          exact ih (upd w5 (12 + z) (w5 (12 + p))) (z + 1) (p + 1) (by omega) (Cn_upd (by omega) (by omega) (by omega) (hcn)) (by omega) _ _ _ hJ (lv_sub hl [2, 3, 4, 1, 0] rfl) hs
  refine lv_iconst (v := 0) hx hb dX5_release_0 (by decide) ?_
  refine lv_istore_n (lv' := [(3, .int 0), (0, .ref (B + wo k)), (1, .ref (B + (wo k + (17 + 3 * c)))), (2, .ref (B + (wo k + (5 + i))))]) hx hb dX5_release_1 rfl hl (by decide) rfl (fun ls hl => ?_)
  refine lv_iconst (v := 0) hx hb dX5_release_2 (by decide) ?_
  refine lv_istore (lv' := [(4, .int 0), (3, .int 0), (0, .ref (B + wo k)), (1, .ref (B + (wo k + (17 + 3 * c)))), (2, .ref (B + (wo k + (5 + i))))]) hx hb dX5_release_3 hl (by decide) rfl (fun ls hl => ?_)
  have hs : sX5_release w c i = bX5_release_5 c i 9 w 0 0 := by unfold sX5_release; rfl
  exact bk_5 9 w 0 0 (by omega) (hcn) (by omega) _ _ _ hJ (lv_sub hl [2, 3, 4, 1, 0] rfl) hs

theorem Cn_release {w : Row} {c i : Nat} (hcn : c < 8) (hi : i < 12) (h : Cn w) : Cn (sX5_release w c i) := by
  have key : ∀ (n : Nat) (w : Row) (z p : Nat), p ≤ 8 → z ≤ p → Cn w → Cn (bX5_release_5 c i n w z p) := by
    intro n
    induction n with
    | zero => intro w z p _ _ h; exact h
    | succ n ih =>
      intro w z p hp hz h
      rw [bX5_release_5]
      by_cases h1 : w 10 ≤ nI p
      · rw [if_pos h1]
        refine Cn_upd (by omega) (by omega) (by omega) (Cn_upd (by omega) (by omega) (by omega) (Cn_upd (by omega) (by omega) (by omega) (Cn_upd (by omega) (by omega) (by omega) ?_)))
        exact ⟨sm_nI (by omega) (by omega), h.2⟩
      · rw [if_neg h1]
        have hp2 := h.lt10 (by omega) h1
        by_cases h2 : w (12 + p) = nI c
        · rw [if_pos h2]; exact ih _ _ _ (by omega) (by omega) h
        · rw [if_neg h2]; exact ih _ _ _ (by omega) (by omega) (Cn_upd (by omega) (by omega) (by omega) h)
  unfold sX5_release
  exact key _ _ _ _ (by omega) (by omega) h
def bX5_letOver_102  (i : Nat) (w102 : Row) (q : Nat) : Int32 × Row := (1, (sX5_drawRiddle (upd (upd w102 (104 + 8 * q + 5) ((w102 (104 + 8 * q + 5)) + 1)) (20 + 7 * i + 5) (((upd w102 (104 + 8 * q + 5) ((w102 (104 + 8 * q + 5)) + 1)) (20 + 7 * i + 5)) + 1)) i))
def bX5_letOver_84  (i : Nat) (w84 : Row) (q : Nat) : Int32 × Row := bX5_letOver_102 i (upd (sX5_release w84 q i) (104 + 8 * q) (sX0_farFrom (sX5_release w84 q i) i ((sX5_release w84 q i) (104 + 8 * q)))) q
def bX5_letOver_62  (i : Nat) (w62 : Row) (q : Nat) : Int32 × Row := if w62 (104 + 8 * q + 3) = w62 (20 + 7 * i + 3) then (bX5_letOver_84 i (sX1_takeGift w62 q (w62 (2)) i) q) else (bX5_letOver_84 i w62 q)
def sX5_letOver (w : Row) (i : Nat) : Int32 × Row := oe (sX5_comerOver w i) (if sX5_isTied w i = 0 then ((0, w)) else ((0, upd w (20 + 7 * i + 6) ((w (20 + 7 * i + 6)) + 1)))) (fun q1 => if sX5_isTied w i = 0 then (if sX5_isTied w i = 0 then (if w (360 + i) = 1 then (bX5_letOver_62 i (sX1_pay w q1 (if (w (104 + 8 * q1 + 1)) < (w (0)) then (w (104 + 8 * q1 + 1)) else (w (0))) i) q1) else (bX5_letOver_62 i w q1)) else (bX5_letOver_62 i (sX1_pay w q1 (if (w (104 + 8 * q1 + 1)) < (w (0)) then (w (104 + 8 * q1 + 1)) else (w (0))) i) q1)) else (if sX5_isTied w i = 0 then (if (upd w (20 + 7 * i + 6) ((w (20 + 7 * i + 6)) + 1)) (360 + i) = 1 then (bX5_letOver_62 i (sX1_pay (upd w (20 + 7 * i + 6) ((w (20 + 7 * i + 6)) + 1)) q1 (if ((upd w (20 + 7 * i + 6) ((w (20 + 7 * i + 6)) + 1)) (104 + 8 * q1 + 1)) < ((upd w (20 + 7 * i + 6) ((w (20 + 7 * i + 6)) + 1)) (0)) then ((upd w (20 + 7 * i + 6) ((w (20 + 7 * i + 6)) + 1)) (104 + 8 * q1 + 1)) else ((upd w (20 + 7 * i + 6) ((w (20 + 7 * i + 6)) + 1)) (0))) i) q1) else (bX5_letOver_62 i (upd w (20 + 7 * i + 6) ((w (20 + 7 * i + 6)) + 1)) q1)) else (bX5_letOver_62 i (sX1_pay (upd w (20 + 7 * i + 6) ((w (20 + 7 * i + 6)) + 1)) q1 (if ((upd w (20 + 7 * i + 6) ((w (20 + 7 * i + 6)) + 1)) (104 + 8 * q1 + 1)) < ((upd w (20 + 7 * i + 6) ((w (20 + 7 * i + 6)) + 1)) (0)) then ((upd w (20 + 7 * i + 6) ((w (20 + 7 * i + 6)) + 1)) (104 + 8 * q1 + 1)) else ((upd w (20 + 7 * i + 6) ((w (20 + 7 * i + 6)) + 1)) (0))) i) q1)))
set_option maxHeartbeats 4000000 in
set_option maxRecDepth 100000 in
theorem mX5_letOver (l : Launch) (E : EE) (B : Nat) (g : GS) (k : Nat) (i : Nat) (w : Row) (hk : k < 11) (hi : i < 12) (hcn : Cn w) : CG l yX5_letOver cX5_letOver 4 (some .int) 3 70 E B [.ref (B + wo k), .ref (B + (wo k + (5 + i)))] (upW g k w) (some (.int (sX5_letOver w i).1)) (upW g k ((sX5_letOver w i).2)) := by
  refine mkI (own := RX5) (ty := .int) rfl (by decide) rfl (rfl) (Nat.le_of_ble_eq_true rfl) (fun P_ e_ s_ m_ a_ below meth cd Q X fin ls hl hJ => ?_)
  have hx := X.1
  have hb := X.2.1
  have hl : lv_has ls 4 [(0, .ref (B + wo k)), (1, .ref (B + (wo k + (5 + i))))] := hl
  have bk_102 : ∀  (w102 : Row)  (q : Nat), (Cn w102) → (q < 8) → ∀ (H : Heap) (locs : List Loc) (ls : Array Slot), JG E B s_ (upW g k w102) H locs → lv_has ls 4 [(0, .ref (B + wo k)), (1, .ref (B + (wo k + (5 + i)))), (3, .ref (B + (wo k + (17 + 3 * q))))] → sX5_letOver w i = bX5_letOver_102 i w102 q → W P_ l e_ (rmm 3 70 0 0) s_ m_ a_ below meth cd H locs 0 0 Q (F0 m_ 102 ls []) := by
    intro w102 q hcn hq H locs ls hJ hl hs
    refine lv_aload_n hx hb dX5_letOver_102 rfl (lv_at hl 2 rfl) ?_
    refine lv_dup hx hb dX5_letOver_103 rfl ?_
    refine gX5_179 X hJ (k := k) (w := w102) (by omega) (i := q) (by omega)  upW_1 dX5_letOver_104 ?_
    refine lv_iconst (v := 1) hx hb dX5_letOver_107 (by decide) ?_
    refine lv_iadd hx hb dX5_letOver_108 ?_
    refine pX5_179 X hJ (k := k) (by omega) (i := q) (by omega) dX5_letOver_109 (fun H locs hJ => ?_)
    refine lv_aload_n hx hb dX5_letOver_112 rfl (lv_at hl 1 rfl) ?_
    refine lv_dup hx hb dX5_letOver_113 rfl ?_
    refine gX5_182 X hJ (k := k) (w := upd w102 (104 + 8 * q + 5) ((w102 (104 + 8 * q + 5)) + 1)) (by omega) (i := i) (by omega)  upW_1 dX5_letOver_114 ?_
    refine lv_iconst (v := 1) hx hb dX5_letOver_117 (by decide) ?_
    refine lv_iadd hx hb dX5_letOver_118 ?_
    refine pX5_182 X hJ (k := k) (by omega) (i := i) (by omega) dX5_letOver_119 (fun H locs hJ => ?_)
    refine lv_aload_n hx hb dX5_letOver_122 rfl (lv_at hl 0 rfl) ?_
    refine lv_aload_n hx hb dX5_letOver_123 rfl (lv_at hl 1 rfl) ?_
    refine kX5_91 X hJ (mX5_drawRiddle l E B _ k i (upd (upd w102 (104 + 8 * q + 5) ((w102 (104 + 8 * q + 5)) + 1)) (20 + 7 * i + 5) (((upd w102 (104 + 8 * q + 5) ((w102 (104 + 8 * q + 5)) + 1)) (20 + 7 * i + 5)) + 1)) (by omega) (by omega)) rfl (lt_W0 (by omega)) (at_W (by omega) rfl) hl.1 ⟨Nat.le_of_ble_eq_true rfl, Nat.le_of_ble_eq_true rfl⟩ ⟨Nat.le_refl _, Nat.le_refl _⟩ (rest := []) rfl (Nat.le_of_ble_eq_true rfl) dX5_letOver_124 (fun H locs hJ => ?_)
    refine lv_iconst (v := 1) hx hb dX5_letOver_127 (by decide) ?_
    have hs : sX5_letOver w i = (1, (sX5_drawRiddle (upd (upd w102 (104 + 8 * q + 5) ((w102 (104 + 8 * q + 5)) + 1)) (20 + 7 * i + 5) (((upd w102 (104 + 8 * q + 5) ((w102 (104 + 8 * q + 5)) + 1)) (20 + 7 * i + 5)) + 1)) i)) := hs.trans (by unfold bX5_letOver_102; rfl)
    exact fin (by rw [hs]; dsimp only; exact hJ) (by rw [hs]) dX5_letOver_128
  have bk_84 : ∀  (w84 : Row)  (q : Nat), (Cn w84) → (q < 8) → ∀ (H : Heap) (locs : List Loc) (ls : Array Slot), JG E B s_ (upW g k w84) H locs → lv_has ls 4 [(0, .ref (B + wo k)), (1, .ref (B + (wo k + (5 + i)))), (3, .ref (B + (wo k + (17 + 3 * q))))] → sX5_letOver w i = bX5_letOver_84 i w84 q → W P_ l e_ (rmm 3 70 0 0) s_ m_ a_ below meth cd H locs 0 0 Q (F0 m_ 84 ls []) := by
    intro w84 q hcn hq H locs ls hJ hl hs
    refine lv_aload_n hx hb dX5_letOver_84 rfl (lv_at hl 0 rfl) ?_
    refine lv_aload_n hx hb dX5_letOver_85 rfl (lv_at hl 2 rfl) ?_
    refine lv_aload_n hx hb dX5_letOver_86 rfl (lv_at hl 1 rfl) ?_
    refine kX5_127 X hJ (mX5_release l E B _ k q i w84 (by omega) (by omega) (by omega) (hcn)) rfl (lt_W0 (by omega)) (at_W (by omega) rfl) hl.1 ⟨Nat.le_of_ble_eq_true rfl, Nat.le_of_ble_eq_true rfl⟩ ⟨Nat.le_refl _, Nat.le_refl _⟩ (rest := []) rfl (Nat.le_of_ble_eq_true rfl) dX5_letOver_87 (fun H locs hJ => ?_)
    refine lv_aload_n hx hb dX5_letOver_90 rfl (lv_at hl 2 rfl) ?_
    refine lv_aload_n hx hb dX5_letOver_91 rfl (lv_at hl 1 rfl) ?_
    refine lv_aload_n hx hb dX5_letOver_92 rfl (lv_at hl 2 rfl) ?_
    refine gX5_97 X hJ (k := k) (w := (sX5_release w84 q i)) (by omega) (i := q) (by omega)  upW_1 dX5_letOver_93 ?_
    refine kX5_175 X hJ (mX0_farFrom l E B _ k i ((sX5_release w84 q i) (104 + 8 * q)) (sX5_release w84 q i) (by omega) (by omega) upW_1) rfl (lt_W (by omega) (by omega)) (at_B (by omega) (by omega) upW_1) hl.1 ⟨Nat.le_of_ble_eq_true rfl, Nat.le_of_ble_eq_true rfl⟩ ⟨Nat.le_refl _, Nat.le_refl _⟩ (rest := [.ref (B + (wo k + (17 + 3 * q)))]) rfl (Nat.le_of_ble_eq_true rfl) dX5_letOver_96 (fun H locs hJ => ?_)
    refine pX5_97 X hJ (k := k) (by omega) (i := q) (by omega) dX5_letOver_99 (fun H locs hJ => ?_)
    have hs : sX5_letOver w i = bX5_letOver_102 i (upd (sX5_release w84 q i) (104 + 8 * q) (sX0_farFrom (sX5_release w84 q i) i ((sX5_release w84 q i) (104 + 8 * q)))) q := hs.trans (by unfold bX5_letOver_84; rfl)
    exact bk_102 (upd (sX5_release w84 q i) (104 + 8 * q) (sX0_farFrom (sX5_release w84 q i) i ((sX5_release w84 q i) (104 + 8 * q)))) q (Cn_upd (by omega) (by omega) (by omega) (Cn_release (by omega) (by omega) (hcn))) (by omega) _ _ _ hJ (lv_sub hl [0, 1, 2] rfl) hs
  have bk_62 : ∀  (w62 : Row)  (q : Nat), (Cn w62) → (q < 8) → ∀ (H : Heap) (locs : List Loc) (ls : Array Slot), JG E B s_ (upW g k w62) H locs → lv_has ls 4 [(0, .ref (B + wo k)), (1, .ref (B + (wo k + (5 + i)))), (3, .ref (B + (wo k + (17 + 3 * q))))] → sX5_letOver w i = bX5_letOver_62 i w62 q → W P_ l e_ (rmm 3 70 0 0) s_ m_ a_ below meth cd H locs 0 0 Q (F0 m_ 62 ls []) := by
    intro w62 q hcn hq H locs ls hJ hl hs
    refine lv_aload_n hx hb dX5_letOver_62 rfl (lv_at hl 2 rfl) ?_
    refine gX5_121 X hJ (k := k) (w := w62) (by omega) (i := q) (by omega)  upW_1 dX5_letOver_63 ?_
    refine lv_aload_n hx hb dX5_letOver_66 rfl (lv_at hl 1 rfl) ?_
    refine gX5_169 X hJ (k := k) (w := w62) (by omega) (i := i) (by omega)  upW_1 dX5_letOver_67 ?_
    refine lv_icmp_ne (tgt := 84) hx hb dX5_letOver_70 (by decide) (fun c_70 => ?_) (fun c_70 => ?_)
    · skip
      have hs : sX5_letOver w i = bX5_letOver_84 i w62 q := hs.trans (by unfold bX5_letOver_62; rw [if_neg c_70])
      exact bk_84 w62 q (hcn) (by omega) _ _ _ hJ (lv_sub hl [0, 1, 2] rfl) hs
    · skip
      refine lv_aload_n hx hb dX5_letOver_73 rfl (lv_at hl 2 rfl) ?_
      refine lv_aload_n hx hb dX5_letOver_74 rfl (lv_at hl 0 rfl) ?_
      refine gX5_9 X hJ (k := k) (w := w62) (by omega) upW_1 dX5_letOver_75 ?_
      refine lv_iconst (v := 2) hx hb dX5_letOver_78 (by decide) ?_
      refine ld_set X hJ (k := k) (w := w62) (by omega) upW_1 (j := 2) (by decide) (by omega) dX5_letOver_79 ?_
      refine lv_aload_n hx hb dX5_letOver_80 rfl (lv_at hl 1 rfl) ?_
      refine kX5_172 X hJ (mX1_takeGift l E B _ k q (w62 (2)) i w62 (by omega) (by omega) (by omega)) rfl (lt_W (by omega) (by omega)) (at_C (by omega) (by omega) upW_1) hl.1 ⟨Nat.le_of_ble_eq_true rfl, Nat.le_of_ble_eq_true rfl⟩ ⟨Nat.le_refl _, Nat.le_refl _⟩ (rest := []) rfl (Nat.le_of_ble_eq_true rfl) dX5_letOver_81 (fun H locs hJ => ?_)
      have hs : sX5_letOver w i = bX5_letOver_84 i (sX1_takeGift w62 q (w62 (2)) i) q := hs.trans (by unfold bX5_letOver_62; rw [if_pos c_70])
      exact bk_84 (sX1_takeGift w62 q (w62 (2)) i) q (Cn_takeGift (by omega) (by omega) (hcn)) (by omega) _ _ _ hJ (lv_sub hl [0, 1, 2] rfl) hs
  refine lv_aload_n hx hb dX5_letOver_0 rfl (lv_at hl 0 rfl) ?_
  refine lv_aload_n hx hb dX5_letOver_1 rfl (lv_at hl 1 rfl) ?_
  refine kX5_152 X hJ (mX5_isTied l E B _ k i w (by omega) (by omega) upW_1 (hcn)) rfl (lt_W0 (by omega)) (at_W (by omega) rfl) hl.1 ⟨Nat.le_of_ble_eq_true rfl, Nat.le_of_ble_eq_true rfl⟩ ⟨Nat.le_refl _, Nat.le_refl _⟩ (rest := []) rfl (Nat.le_of_ble_eq_true rfl) dX5_letOver_2 (fun H locs hJ => ?_)
  refine lv_istore_n (lv' := [(2, .int (sX5_isTied w i)), (0, .ref (B + wo k)), (1, .ref (B + (wo k + (5 + i))))]) hx hb dX5_letOver_5 rfl hl (by decide) rfl (fun ls hl => ?_)
  refine lv_aload_n hx hb dX5_letOver_6 rfl (lv_at hl 1 rfl) ?_
  refine lv_aload_n hx hb dX5_letOver_7 rfl (lv_at hl 2 rfl) ?_
  refine kX5_156 X hJ (mX5_comerOver l E B _ k i w (by omega) (by omega) upW_1 (hcn)) rfl (lt_W0 (by omega)) (at_W (by omega) rfl) hl.1 ⟨Nat.le_of_ble_eq_true rfl, Nat.le_of_ble_eq_true rfl⟩ ⟨Nat.le_refl _, Nat.le_refl _⟩ (rest := []) rfl (Nat.le_of_ble_eq_true rfl) dX5_letOver_8 (fun H locs hJ => ?_)
  rcases o_8 : sX5_comerOver w i with _ | q1
  · skip
    refine lv_astore_nN (lv' := [(3, .null), (2, .int (sX5_isTied w i)), (0, .ref (B + wo k)), (1, .ref (B + (wo k + (5 + i))))]) hx hb dX5_letOver_11 rfl hl (by decide) rfl (fun ls hl => ?_)
    refine lv_iload_n hx hb dX5_letOver_12 rfl (lv_at hl 1 rfl) ?_
    refine lv_if_eq (tgt := 26) hx hb dX5_letOver_13 (by decide) (fun c_13 => ?_) (fun c_13 => ?_)
    · skip
      refine lv_aload_nN hx hb dX5_letOver_26 rfl (lv_at hl 0 rfl) ?_
      refine lv_ifnonnullN hx hb dX5_letOver_27 ?_
      refine lv_iconst (v := 0) hx hb dX5_letOver_30 (by decide) ?_
      have hs : sX5_letOver w i = (0, w) := by unfold sX5_letOver; rw [oe_none o_8, if_pos c_13]
      exact fin (by rw [hs]; dsimp only; exact hJ) (by rw [hs]) dX5_letOver_31
    · skip
      refine lv_aload_n hx hb dX5_letOver_16 rfl (lv_at hl 3 rfl) ?_
      refine lv_dup hx hb dX5_letOver_17 rfl ?_
      refine gX5_160 X hJ (k := k) (w := w) (by omega) (i := i) (by omega)  upW_1 dX5_letOver_18 ?_
      refine lv_iconst (v := 1) hx hb dX5_letOver_21 (by decide) ?_
      refine lv_iadd hx hb dX5_letOver_22 ?_
      refine pX5_160 X hJ (k := k) (by omega) (i := i) (by omega) dX5_letOver_23 (fun H locs hJ => ?_)
      refine lv_aload_nN hx hb dX5_letOver_26 rfl (lv_at hl 0 rfl) ?_
      refine lv_ifnonnullN hx hb dX5_letOver_27 ?_
      refine lv_iconst (v := 0) hx hb dX5_letOver_30 (by decide) ?_
      have hs : sX5_letOver w i = (0, upd w (20 + 7 * i + 6) ((w (20 + 7 * i + 6)) + 1)) := by unfold sX5_letOver; rw [oe_none o_8, if_neg c_13]
      exact fin (by rw [hs]; dsimp only; exact hJ) (by rw [hs]) dX5_letOver_31
  · skip
    have hq1 := comerOver_some (by omega) (hcn) o_8
    refine lv_astore_n (lv' := [(3, .ref (B + (wo k + (17 + 3 * q1)))), (2, .int (sX5_isTied w i)), (0, .ref (B + wo k)), (1, .ref (B + (wo k + (5 + i))))]) hx hb dX5_letOver_11 rfl hl (by decide) rfl (fun ls hl => ?_)
    refine lv_iload_n hx hb dX5_letOver_12 rfl (lv_at hl 1 rfl) ?_
    refine lv_if_eq (tgt := 26) hx hb dX5_letOver_13 (by decide) (fun c_13 => ?_) (fun c_13 => ?_)
    · skip
      refine lv_aload_n hx hb dX5_letOver_26 rfl (lv_at hl 0 rfl) ?_
      refine lv_ifnonnull (tgt := 32) hx hb dX5_letOver_27 (by decide) ?_
      refine lv_iload_n hx hb dX5_letOver_32 rfl (lv_at hl 1 rfl) ?_
      refine lv_if_ne (tgt := 44) hx hb dX5_letOver_33 (by decide) (fun c_33 => ?_) (fun c_33 => ?_)
      · skip
        refine lv_aload_n hx hb dX5_letOver_44 rfl (lv_at hl 0 rfl) ?_
        refine lv_aload_n hx hb dX5_letOver_45 rfl (lv_at hl 2 rfl) ?_
        refine gX5_9 X hJ (k := k) (w := w) (by omega) upW_1 dX5_letOver_46 ?_
        refine lv_iconst (v := 0) hx hb dX5_letOver_49 (by decide) ?_
        refine ld_set X hJ (k := k) (w := w) (by omega) upW_1 (j := 0) (by decide) (by omega) dX5_letOver_50 ?_
        refine lv_aload_n hx hb dX5_letOver_51 rfl (lv_at hl 0 rfl) ?_
        refine gX5_98 X hJ (k := k) (w := w) (by omega) (i := q1) (by omega)  upW_1 dX5_letOver_52 ?_
        refine rmin X tl_X5_163 hl.1 ⟨Nat.le_of_ble_eq_true rfl, Nat.le_of_ble_eq_true rfl⟩ ⟨Nat.le_refl _, Nat.le_refl _⟩ dX5_letOver_55 ?_
        refine lv_aload_n hx hb dX5_letOver_58 rfl (lv_at hl 3 rfl) ?_
        refine kX5_135 X hJ (mX1_pay l E B _ k q1 (if (w (104 + 8 * q1 + 1)) < (w (0)) then (w (104 + 8 * q1 + 1)) else (w (0))) i w (by omega) (by omega) (by omega)) rfl (lt_W (by omega) (by omega)) (at_C (by omega) (by omega) upW_1) hl.1 ⟨Nat.le_of_ble_eq_true rfl, Nat.le_of_ble_eq_true rfl⟩ ⟨Nat.le_refl _, Nat.le_refl _⟩ (rest := []) rfl (Nat.le_of_ble_eq_true rfl) dX5_letOver_59 (fun H locs hJ => ?_)
        have hs : sX5_letOver w i = bX5_letOver_62 i (sX1_pay w q1 (if (w (104 + 8 * q1 + 1)) < (w (0)) then (w (104 + 8 * q1 + 1)) else (w (0))) i) q1 := by unfold sX5_letOver; rw [oe_some o_8, if_pos c_13, if_neg c_33]
        exact bk_62 (sX1_pay w q1 (if (w (104 + 8 * q1 + 1)) < (w (0)) then (w (104 + 8 * q1 + 1)) else (w (0))) i) q1 (Cn_pay (by omega) (by omega) (hcn)) (by omega) _ _ _ hJ (lv_sub hl [2, 3, 0] rfl) hs
      · skip
        refine lv_aload_n hx hb dX5_letOver_36 rfl (lv_at hl 3 rfl) ?_
        refine gX5_124 X hJ (k := k) (w := w) (by omega) (i := i) (by omega)  upW_1 dX5_letOver_37 ?_
        refine lv_iconst (v := 1) hx hb dX5_letOver_40 (by decide) ?_
        refine lv_icmp_ne (tgt := 62) hx hb dX5_letOver_41 (by decide) (fun c_41 => ?_) (fun c_41 => ?_)
        · skip
          have hs : sX5_letOver w i = bX5_letOver_62 i w q1 := by unfold sX5_letOver; rw [oe_some o_8, if_pos c_13, if_pos c_33, if_neg c_41]
          exact bk_62 w q1 (hcn) (by omega) _ _ _ hJ (lv_sub hl [2, 3, 0] rfl) hs
        · skip
          refine lv_aload_n hx hb dX5_letOver_44 rfl (lv_at hl 0 rfl) ?_
          refine lv_aload_n hx hb dX5_letOver_45 rfl (lv_at hl 2 rfl) ?_
          refine gX5_9 X hJ (k := k) (w := w) (by omega) upW_1 dX5_letOver_46 ?_
          refine lv_iconst (v := 0) hx hb dX5_letOver_49 (by decide) ?_
          refine ld_set X hJ (k := k) (w := w) (by omega) upW_1 (j := 0) (by decide) (by omega) dX5_letOver_50 ?_
          refine lv_aload_n hx hb dX5_letOver_51 rfl (lv_at hl 0 rfl) ?_
          refine gX5_98 X hJ (k := k) (w := w) (by omega) (i := q1) (by omega)  upW_1 dX5_letOver_52 ?_
          refine rmin X tl_X5_163 hl.1 ⟨Nat.le_of_ble_eq_true rfl, Nat.le_of_ble_eq_true rfl⟩ ⟨Nat.le_refl _, Nat.le_refl _⟩ dX5_letOver_55 ?_
          refine lv_aload_n hx hb dX5_letOver_58 rfl (lv_at hl 3 rfl) ?_
          refine kX5_135 X hJ (mX1_pay l E B _ k q1 (if (w (104 + 8 * q1 + 1)) < (w (0)) then (w (104 + 8 * q1 + 1)) else (w (0))) i w (by omega) (by omega) (by omega)) rfl (lt_W (by omega) (by omega)) (at_C (by omega) (by omega) upW_1) hl.1 ⟨Nat.le_of_ble_eq_true rfl, Nat.le_of_ble_eq_true rfl⟩ ⟨Nat.le_refl _, Nat.le_refl _⟩ (rest := []) rfl (Nat.le_of_ble_eq_true rfl) dX5_letOver_59 (fun H locs hJ => ?_)
          have hs : sX5_letOver w i = bX5_letOver_62 i (sX1_pay w q1 (if (w (104 + 8 * q1 + 1)) < (w (0)) then (w (104 + 8 * q1 + 1)) else (w (0))) i) q1 := by unfold sX5_letOver; rw [oe_some o_8, if_pos c_13, if_pos c_33, if_pos c_41]
          exact bk_62 (sX1_pay w q1 (if (w (104 + 8 * q1 + 1)) < (w (0)) then (w (104 + 8 * q1 + 1)) else (w (0))) i) q1 (Cn_pay (by omega) (by omega) (hcn)) (by omega) _ _ _ hJ (lv_sub hl [2, 3, 0] rfl) hs
    · skip
      refine lv_aload_n hx hb dX5_letOver_16 rfl (lv_at hl 3 rfl) ?_
      refine lv_dup hx hb dX5_letOver_17 rfl ?_
      refine gX5_160 X hJ (k := k) (w := w) (by omega) (i := i) (by omega)  upW_1 dX5_letOver_18 ?_
      refine lv_iconst (v := 1) hx hb dX5_letOver_21 (by decide) ?_
      refine lv_iadd hx hb dX5_letOver_22 ?_
      refine pX5_160 X hJ (k := k) (by omega) (i := i) (by omega) dX5_letOver_23 (fun H locs hJ => ?_)
      refine lv_aload_n hx hb dX5_letOver_26 rfl (lv_at hl 0 rfl) ?_
      refine lv_ifnonnull (tgt := 32) hx hb dX5_letOver_27 (by decide) ?_
      refine lv_iload_n hx hb dX5_letOver_32 rfl (lv_at hl 1 rfl) ?_
      refine lv_if_ne (tgt := 44) hx hb dX5_letOver_33 (by decide) (fun c_33 => ?_) (fun c_33 => ?_)
      · skip
        refine lv_aload_n hx hb dX5_letOver_44 rfl (lv_at hl 0 rfl) ?_
        refine lv_aload_n hx hb dX5_letOver_45 rfl (lv_at hl 2 rfl) ?_
        refine gX5_9 X hJ (k := k) (w := upd w (20 + 7 * i + 6) ((w (20 + 7 * i + 6)) + 1)) (by omega) upW_1 dX5_letOver_46 ?_
        refine lv_iconst (v := 0) hx hb dX5_letOver_49 (by decide) ?_
        refine ld_set X hJ (k := k) (w := upd w (20 + 7 * i + 6) ((w (20 + 7 * i + 6)) + 1)) (by omega) upW_1 (j := 0) (by decide) (by omega) dX5_letOver_50 ?_
        refine lv_aload_n hx hb dX5_letOver_51 rfl (lv_at hl 0 rfl) ?_
        refine gX5_98 X hJ (k := k) (w := upd w (20 + 7 * i + 6) ((w (20 + 7 * i + 6)) + 1)) (by omega) (i := q1) (by omega)  upW_1 dX5_letOver_52 ?_
        refine rmin X tl_X5_163 hl.1 ⟨Nat.le_of_ble_eq_true rfl, Nat.le_of_ble_eq_true rfl⟩ ⟨Nat.le_refl _, Nat.le_refl _⟩ dX5_letOver_55 ?_
        refine lv_aload_n hx hb dX5_letOver_58 rfl (lv_at hl 3 rfl) ?_
        refine kX5_135 X hJ (mX1_pay l E B _ k q1 (if ((upd w (20 + 7 * i + 6) ((w (20 + 7 * i + 6)) + 1)) (104 + 8 * q1 + 1)) < ((upd w (20 + 7 * i + 6) ((w (20 + 7 * i + 6)) + 1)) (0)) then ((upd w (20 + 7 * i + 6) ((w (20 + 7 * i + 6)) + 1)) (104 + 8 * q1 + 1)) else ((upd w (20 + 7 * i + 6) ((w (20 + 7 * i + 6)) + 1)) (0))) i (upd w (20 + 7 * i + 6) ((w (20 + 7 * i + 6)) + 1)) (by omega) (by omega) (by omega)) rfl (lt_W (by omega) (by omega)) (at_C (by omega) (by omega) upW_1) hl.1 ⟨Nat.le_of_ble_eq_true rfl, Nat.le_of_ble_eq_true rfl⟩ ⟨Nat.le_refl _, Nat.le_refl _⟩ (rest := []) rfl (Nat.le_of_ble_eq_true rfl) dX5_letOver_59 (fun H locs hJ => ?_)
        have hs : sX5_letOver w i = bX5_letOver_62 i (sX1_pay (upd w (20 + 7 * i + 6) ((w (20 + 7 * i + 6)) + 1)) q1 (if ((upd w (20 + 7 * i + 6) ((w (20 + 7 * i + 6)) + 1)) (104 + 8 * q1 + 1)) < ((upd w (20 + 7 * i + 6) ((w (20 + 7 * i + 6)) + 1)) (0)) then ((upd w (20 + 7 * i + 6) ((w (20 + 7 * i + 6)) + 1)) (104 + 8 * q1 + 1)) else ((upd w (20 + 7 * i + 6) ((w (20 + 7 * i + 6)) + 1)) (0))) i) q1 := by unfold sX5_letOver; rw [oe_some o_8, if_neg c_13, if_neg c_33]
        exact bk_62 (sX1_pay (upd w (20 + 7 * i + 6) ((w (20 + 7 * i + 6)) + 1)) q1 (if ((upd w (20 + 7 * i + 6) ((w (20 + 7 * i + 6)) + 1)) (104 + 8 * q1 + 1)) < ((upd w (20 + 7 * i + 6) ((w (20 + 7 * i + 6)) + 1)) (0)) then ((upd w (20 + 7 * i + 6) ((w (20 + 7 * i + 6)) + 1)) (104 + 8 * q1 + 1)) else ((upd w (20 + 7 * i + 6) ((w (20 + 7 * i + 6)) + 1)) (0))) i) q1 (Cn_pay (by omega) (by omega) (Cn_upd (by omega) (by omega) (by omega) (hcn))) (by omega) _ _ _ hJ (lv_sub hl [2, 3, 0] rfl) hs
      · skip
        refine lv_aload_n hx hb dX5_letOver_36 rfl (lv_at hl 3 rfl) ?_
        refine gX5_124 X hJ (k := k) (w := upd w (20 + 7 * i + 6) ((w (20 + 7 * i + 6)) + 1)) (by omega) (i := i) (by omega)  upW_1 dX5_letOver_37 ?_
        refine lv_iconst (v := 1) hx hb dX5_letOver_40 (by decide) ?_
        refine lv_icmp_ne (tgt := 62) hx hb dX5_letOver_41 (by decide) (fun c_41 => ?_) (fun c_41 => ?_)
        · skip
          have hs : sX5_letOver w i = bX5_letOver_62 i (upd w (20 + 7 * i + 6) ((w (20 + 7 * i + 6)) + 1)) q1 := by unfold sX5_letOver; rw [oe_some o_8, if_neg c_13, if_pos c_33, if_neg c_41]
          exact bk_62 (upd w (20 + 7 * i + 6) ((w (20 + 7 * i + 6)) + 1)) q1 (Cn_upd (by omega) (by omega) (by omega) (hcn)) (by omega) _ _ _ hJ (lv_sub hl [2, 3, 0] rfl) hs
        · skip
          refine lv_aload_n hx hb dX5_letOver_44 rfl (lv_at hl 0 rfl) ?_
          refine lv_aload_n hx hb dX5_letOver_45 rfl (lv_at hl 2 rfl) ?_
          refine gX5_9 X hJ (k := k) (w := upd w (20 + 7 * i + 6) ((w (20 + 7 * i + 6)) + 1)) (by omega) upW_1 dX5_letOver_46 ?_
          refine lv_iconst (v := 0) hx hb dX5_letOver_49 (by decide) ?_
          refine ld_set X hJ (k := k) (w := upd w (20 + 7 * i + 6) ((w (20 + 7 * i + 6)) + 1)) (by omega) upW_1 (j := 0) (by decide) (by omega) dX5_letOver_50 ?_
          refine lv_aload_n hx hb dX5_letOver_51 rfl (lv_at hl 0 rfl) ?_
          refine gX5_98 X hJ (k := k) (w := upd w (20 + 7 * i + 6) ((w (20 + 7 * i + 6)) + 1)) (by omega) (i := q1) (by omega)  upW_1 dX5_letOver_52 ?_
          refine rmin X tl_X5_163 hl.1 ⟨Nat.le_of_ble_eq_true rfl, Nat.le_of_ble_eq_true rfl⟩ ⟨Nat.le_refl _, Nat.le_refl _⟩ dX5_letOver_55 ?_
          refine lv_aload_n hx hb dX5_letOver_58 rfl (lv_at hl 3 rfl) ?_
          refine kX5_135 X hJ (mX1_pay l E B _ k q1 (if ((upd w (20 + 7 * i + 6) ((w (20 + 7 * i + 6)) + 1)) (104 + 8 * q1 + 1)) < ((upd w (20 + 7 * i + 6) ((w (20 + 7 * i + 6)) + 1)) (0)) then ((upd w (20 + 7 * i + 6) ((w (20 + 7 * i + 6)) + 1)) (104 + 8 * q1 + 1)) else ((upd w (20 + 7 * i + 6) ((w (20 + 7 * i + 6)) + 1)) (0))) i (upd w (20 + 7 * i + 6) ((w (20 + 7 * i + 6)) + 1)) (by omega) (by omega) (by omega)) rfl (lt_W (by omega) (by omega)) (at_C (by omega) (by omega) upW_1) hl.1 ⟨Nat.le_of_ble_eq_true rfl, Nat.le_of_ble_eq_true rfl⟩ ⟨Nat.le_refl _, Nat.le_refl _⟩ (rest := []) rfl (Nat.le_of_ble_eq_true rfl) dX5_letOver_59 (fun H locs hJ => ?_)
          have hs : sX5_letOver w i = bX5_letOver_62 i (sX1_pay (upd w (20 + 7 * i + 6) ((w (20 + 7 * i + 6)) + 1)) q1 (if ((upd w (20 + 7 * i + 6) ((w (20 + 7 * i + 6)) + 1)) (104 + 8 * q1 + 1)) < ((upd w (20 + 7 * i + 6) ((w (20 + 7 * i + 6)) + 1)) (0)) then ((upd w (20 + 7 * i + 6) ((w (20 + 7 * i + 6)) + 1)) (104 + 8 * q1 + 1)) else ((upd w (20 + 7 * i + 6) ((w (20 + 7 * i + 6)) + 1)) (0))) i) q1 := by unfold sX5_letOver; rw [oe_some o_8, if_neg c_13, if_pos c_33, if_pos c_41]
          exact bk_62 (sX1_pay (upd w (20 + 7 * i + 6) ((w (20 + 7 * i + 6)) + 1)) q1 (if ((upd w (20 + 7 * i + 6) ((w (20 + 7 * i + 6)) + 1)) (104 + 8 * q1 + 1)) < ((upd w (20 + 7 * i + 6) ((w (20 + 7 * i + 6)) + 1)) (0)) then ((upd w (20 + 7 * i + 6) ((w (20 + 7 * i + 6)) + 1)) (104 + 8 * q1 + 1)) else ((upd w (20 + 7 * i + 6) ((w (20 + 7 * i + 6)) + 1)) (0))) i) q1 (Cn_pay (by omega) (by omega) (Cn_upd (by omega) (by omega) (by omega) (hcn))) (by omega) _ _ _ hJ (lv_sub hl [2, 3, 0] rfl) hs

theorem Cn_letOver {w : Row} {i : Nat} (hi : i < 12) (h : Cn w) : Cn (sX5_letOver w i).2 := by
  have k3 : ∀ (w : Row) (q : Nat), q < 8 → Cn w → Cn (bX5_letOver_102 i w q).2 := by
    intro w q hq h
    unfold bX5_letOver_102
    exact Cn_drawRiddle hi (Cn_upd (by omega) (by omega) (by omega) (Cn_upd (by omega) (by omega) (by omega) h))
  have k2 : ∀ (w : Row) (q : Nat), q < 8 → Cn w → Cn (bX5_letOver_84 i w q).2 := by
    intro w q hq h
    unfold bX5_letOver_84
    exact k3 _ _ hq (Cn_upd (by omega) (by omega) (by omega) (Cn_release hq hi h))
  have k1 : ∀ (w : Row) (q : Nat), q < 8 → Cn w → Cn (bX5_letOver_62 i w q).2 := by
    intro w q hq h
    unfold bX5_letOver_62
    split
    · exact k2 _ _ hq (Cn_takeGift hq hi h)
    · exact k2 _ _ hq h
  unfold sX5_letOver
  rcases h1 : sX5_comerOver w i with _ | q
  · rw [oe_none rfl]
    split
    · exact h
    · exact Cn_upd (by omega) (by omega) (by omega) h
  · rw [oe_some rfl]
    have hq := comerOver_some hi h h1
    (repeat' split) <;> exact k1 _ _ hq (by first | exact h | exact Cn_pay hq hi (Cn_upd (by omega) (by omega) (by omega) h) | exact Cn_pay hq hi h)
def bX5_playHour_33  : Nat → Row → Int32 → Nat → Int32 × Row
  | 0, w33, _, _ => (0, w33)
  | n + 1, w33, ov, p => if w33 6 ≤ nI p then ((ov, upd w33 (4) ((w33 4) + 1))) else (if sX1_isWaiting w33 p = 0 then (bX5_playHour_33  n w33 ov (p + 1)) else (bX5_playHour_33  n (upd w33 (104 + 8 * p + 4) ((w33 (104 + 8 * p + 4)) + 1)) ov (p + 1)))
def bX5_playHour_4  : Nat → Row → Int32 → Nat → Int32 × Row
  | 0, w4, _, _ => (0, w4)
  | n + 1, w4, ov, p => if w4 5 ≤ nI p then (bX5_playHour_33  9 w4 ov 0) else (bX5_playHour_4  n ((sX5_letOver w4 p).2) (ov + ((sX5_letOver w4 p).1)) (p + 1))
def sX5_playHour (w : Row) : Int32 × Row := bX5_playHour_4  13 w 0 0
set_option maxHeartbeats 4000000 in
set_option maxRecDepth 100000 in
theorem mX5_playHour (l : Launch) (E : EE) (B : Nat) (g : GS) (k : Nat)  (w : Row) (hk : k < 11)  (hcn : Cn w) : CG l yX5_playHour cX5_playHour 3 (some .int) 4 93 E B [.ref (B + wo k)] (upW g k w) (some (.int (sX5_playHour w).1)) (upW g k ((sX5_playHour w).2)) := by
  refine mkI (own := RX5) (ty := .int) rfl (by decide) rfl (rfl) (Nat.le_of_ble_eq_true rfl) (fun P_ e_ s_ m_ a_ below meth cd Q X fin ls hl hJ => ?_)
  have hx := X.1
  have hb := X.2.1
  have hl : lv_has ls 3 [(0, .ref (B + wo k))] := hl
  have bk_33 : ∀ (n : Nat) (w33 : Row)  (ov : Int32)  (p : Nat), 8 - p < n → (Cn w33) → (p ≤ 8) → ∀ (H : Heap) (locs : List Loc) (ls : Array Slot), JG E B s_ (upW g k w33) H locs → lv_has ls 3 [(0, .ref (B + wo k)), (1, .int ov), (2, .int (nI p))] → sX5_playHour w = bX5_playHour_33  n w33 ov p → W P_ l e_ (rmm 4 93 0 0) s_ m_ a_ below meth cd H locs 0 0 Q (F0 m_ 33 ls []) := by
    intro n
    induction n with
    | zero => intro w33 ov p hm; exact absurd hm (Nat.not_lt_zero _)
    | succ n ih =>
      intro w33 ov p hm hcn hp H locs ls hJ hl hs
      refine lv_iload_n hx hb dX5_playHour_33 rfl (lv_at hl 2 rfl) ?_
      refine lv_aload_n hx hb dX5_playHour_34 rfl (lv_at hl 0 rfl) ?_
      refine gX5_60 X hJ (k := k) (w := w33) (by omega) upW_1 dX5_playHour_35 ?_
      refine lv_icmp_ge (tgt := 74) hx hb dX5_playHour_38 (by decide) (fun c_38 => ?_) (fun c_38 => ?_)
      · skip
        refine lv_aload_n hx hb dX5_playHour_74 rfl (lv_at hl 0 rfl) ?_
        refine lv_dup hx hb dX5_playHour_75 rfl ?_
        refine gX5_63 X hJ (k := k) (w := w33) (by omega) upW_1 dX5_playHour_76 ?_
        refine lv_iconst (v := 1) hx hb dX5_playHour_79 (by decide) ?_
        refine lv_iadd hx hb dX5_playHour_80 ?_
        refine pX5_63 X hJ (k := k) (by omega) dX5_playHour_81 (fun H locs hJ => ?_)
        refine lv_iload_n hx hb dX5_playHour_84 rfl (lv_at hl 1 rfl) ?_
        have hs : sX5_playHour w = (ov, upd w33 (4) ((w33 4) + 1)) := hs.trans (by rw [bX5_playHour_33, if_pos c_38])
        exact fin (by rw [hs]; dsimp only; exact hJ) (by rw [hs]) dX5_playHour_85
      · skip
        have hp2 := Cn.lt6 hcn (by omega) c_38
        refine lv_aload_n hx hb dX5_playHour_41 rfl (lv_at hl 0 rfl) ?_
        refine gX5_23 X hJ (k := k) (w := w33) (by omega) upW_1 dX5_playHour_42 ?_
        refine lv_iload_n hx hb dX5_playHour_45 rfl (lv_at hl 2 rfl) ?_
        refine ld_cts X hJ (k := k) (by omega) (j := p) (rfl) (by omega) dX5_playHour_46 ?_
        refine kX5_110 X hJ (mX1_isWaiting l E B _ k p w33 (by omega) (by omega) upW_1) rfl (lt_W (by omega) (by omega)) (at_C (by omega) (by omega) upW_1) hl.1 ⟨Nat.le_of_ble_eq_true rfl, Nat.le_of_ble_eq_true rfl⟩ ⟨Nat.le_refl _, Nat.le_refl _⟩ (rest := []) rfl (Nat.le_of_ble_eq_true rfl) dX5_playHour_47 (fun H locs hJ => ?_)
        refine lv_if_eq (tgt := 68) hx hb dX5_playHour_50 (by decide) (fun c_50 => ?_) (fun c_50 => ?_)
        · skip
          refine lv_iinc (v := nI (p + 1)) (lv' := [(2, .int (nI (p + 1))), (0, .ref (B + wo k)), (1, .int ov)]) hx hb dX5_playHour_68 hl (k := 2) rfl (by first | exact nI_add _ _ | rfl) (by decide) rfl (fun ls hl => ?_)
          refine lv_goto (tgt := 33) hx hb dX5_playHour_71 (by decide) ?_
          have hs : sX5_playHour w = bX5_playHour_33  n w33 ov (p + 1) := hs.trans (by rw [bX5_playHour_33, if_neg c_38, if_pos c_50])
          exact ih w33 ov (p + 1) (by omega) (hcn) (by omega) _ _ _ hJ (lv_sub hl [1, 2, 0] rfl) hs
        · skip
          refine lv_aload_n hx hb dX5_playHour_53 rfl (lv_at hl 0 rfl) ?_
          refine gX5_23 X hJ (k := k) (w := w33) (by omega) upW_1 dX5_playHour_54 ?_
          refine lv_iload_n hx hb dX5_playHour_57 rfl (lv_at hl 2 rfl) ?_
          refine ld_cts X hJ (k := k) (by omega) (j := p) (rfl) (by omega) dX5_playHour_58 ?_
          refine lv_dup hx hb dX5_playHour_59 rfl ?_
          refine gX5_149 X hJ (k := k) (w := w33) (by omega) (i := p) (by omega)  upW_1 dX5_playHour_60 ?_
          refine lv_iconst (v := 1) hx hb dX5_playHour_63 (by decide) ?_
          refine lv_iadd hx hb dX5_playHour_64 ?_
          refine pX5_149 X hJ (k := k) (by omega) (i := p) (by omega) dX5_playHour_65 (fun H locs hJ => ?_)
          refine lv_iinc (v := nI (p + 1)) (lv' := [(2, .int (nI (p + 1))), (0, .ref (B + wo k)), (1, .int ov)]) hx hb dX5_playHour_68 hl (k := 2) rfl (by first | exact nI_add _ _ | rfl) (by decide) rfl (fun ls hl => ?_)
          refine lv_goto (tgt := 33) hx hb dX5_playHour_71 (by decide) ?_
          have hs : sX5_playHour w = bX5_playHour_33  n (upd w33 (104 + 8 * p + 4) ((w33 (104 + 8 * p + 4)) + 1)) ov (p + 1) := hs.trans (by rw [bX5_playHour_33, if_neg c_38, if_neg c_50])
          exact ih (upd w33 (104 + 8 * p + 4) ((w33 (104 + 8 * p + 4)) + 1)) ov (p + 1) (by omega) (Cn_upd (by omega) (by omega) (by omega) (hcn)) (by omega) _ _ _ hJ (lv_sub hl [1, 2, 0] rfl) hs
  have bk_4 : ∀ (n : Nat) (w4 : Row)  (ov : Int32)  (p : Nat), 12 - p < n → (Cn w4) → (p ≤ 12) → ∀ (H : Heap) (locs : List Loc) (ls : Array Slot), JG E B s_ (upW g k w4) H locs → lv_has ls 3 [(0, .ref (B + wo k)), (1, .int ov), (2, .int (nI p))] → sX5_playHour w = bX5_playHour_4  n w4 ov p → W P_ l e_ (rmm 4 93 0 0) s_ m_ a_ below meth cd H locs 0 0 Q (F0 m_ 4 ls []) := by
    intro n
    induction n with
    | zero => intro w4 ov p hm; exact absurd hm (Nat.not_lt_zero _)
    | succ n ih =>
      intro w4 ov p hm hcn hp H locs ls hJ hl hs
      refine lv_iload_n hx hb dX5_playHour_4 rfl (lv_at hl 2 rfl) ?_
      refine lv_aload_n hx hb dX5_playHour_5 rfl (lv_at hl 0 rfl) ?_
      refine gX5_57 X hJ (k := k) (w := w4) (by omega) upW_1 dX5_playHour_6 ?_
      refine lv_icmp_ge (tgt := 31) hx hb dX5_playHour_9 (by decide) (fun c_9 => ?_) (fun c_9 => ?_)
      · skip
        refine lv_iconst (v := 0) hx hb dX5_playHour_31 (by decide) ?_
        refine lv_istore_n (lv' := [(2, .int 0), (0, .ref (B + wo k)), (1, .int ov)]) hx hb dX5_playHour_32 rfl hl (by decide) rfl (fun ls hl => ?_)
        have hs : sX5_playHour w = bX5_playHour_33  9 w4 ov 0 := hs.trans (by rw [bX5_playHour_4, if_pos c_9])
        exact bk_33 9 w4 ov 0 (by omega) (hcn) (by omega) _ _ _ hJ (lv_sub hl [1, 2, 0] rfl) hs
      · skip
        have hp2 := Cn.lt5 hcn (by omega) c_9
        refine lv_iload_n hx hb dX5_playHour_12 rfl (lv_at hl 1 rfl) ?_
        refine lv_aload_n hx hb dX5_playHour_13 rfl (lv_at hl 0 rfl) ?_
        refine lv_aload_n hx hb dX5_playHour_14 rfl (lv_at hl 0 rfl) ?_
        refine gX5_17 X hJ (k := k) (w := w4) (by omega) upW_1 dX5_playHour_15 ?_
        refine lv_iload_n hx hb dX5_playHour_18 rfl (lv_at hl 2 rfl) ?_
        refine ld_brs X hJ (k := k) (by omega) (j := p) (rfl) (by omega) dX5_playHour_19 ?_
        refine kX5_146 X hJ (mX5_letOver l E B _ k p w4 (by omega) (by omega) (hcn)) rfl (lt_W0 (by omega)) (at_W (by omega) rfl) hl.1 ⟨Nat.le_of_ble_eq_true rfl, Nat.le_of_ble_eq_true rfl⟩ ⟨Nat.le_refl _, Nat.le_refl _⟩ (rest := [.int ov]) rfl (Nat.le_of_ble_eq_true rfl) dX5_playHour_20 (fun H locs hJ => ?_)
        refine lv_iadd hx hb dX5_playHour_23 ?_
        refine lv_istore_n (lv' := [(1, .int (ov + ((sX5_letOver w4 p).1))), (0, .ref (B + wo k)), (2, .int (nI p))]) hx hb dX5_playHour_24 rfl hl (by decide) rfl (fun ls hl => ?_)
        refine lv_iinc (v := nI (p + 1)) (lv' := [(2, .int (nI (p + 1))), (1, .int (ov + ((sX5_letOver w4 p).1))), (0, .ref (B + wo k))]) hx hb dX5_playHour_25 hl (k := 2) rfl (by first | exact nI_add _ _ | rfl) (by decide) rfl (fun ls hl => ?_)
        refine lv_goto (tgt := 4) hx hb dX5_playHour_28 (by decide) ?_
        have hs : sX5_playHour w = bX5_playHour_4  n ((sX5_letOver w4 p).2) (ov + ((sX5_letOver w4 p).1)) (p + 1) := hs.trans (by rw [bX5_playHour_4, if_neg c_9])
        exact ih ((sX5_letOver w4 p).2) (ov + ((sX5_letOver w4 p).1)) (p + 1) (by omega) (Cn_letOver (by omega) (hcn)) (by omega) _ _ _ hJ (lv_sub hl [2, 1, 0] rfl) hs
  refine lv_iconst (v := 0) hx hb dX5_playHour_0 (by decide) ?_
  refine lv_istore_n (lv' := [(1, .int 0), (0, .ref (B + wo k))]) hx hb dX5_playHour_1 rfl hl (by decide) rfl (fun ls hl => ?_)
  refine lv_iconst (v := 0) hx hb dX5_playHour_2 (by decide) ?_
  refine lv_istore_n (lv' := [(2, .int 0), (1, .int 0), (0, .ref (B + wo k))]) hx hb dX5_playHour_3 rfl hl (by decide) rfl (fun ls hl => ?_)
  have hs : sX5_playHour w = bX5_playHour_4  13 w 0 0 := by unfold sX5_playHour; rfl
  exact bk_4 13 w 0 0 (by omega) (hcn) (by omega) _ _ _ hJ (lv_sub hl [2, 1, 0] rfl) hs

theorem Cn_playHour {w : Row} (h : Cn w) : Cn (sX5_playHour w).2 := by
  have k2 : ∀ (n : Nat) (w : Row) (ov : Int32) (p : Nat), p ≤ 8 → Cn w → Cn (bX5_playHour_33 n w ov p).2 := by
    intro n
    induction n with
    | zero => intro w ov p _ h; exact h
    | succ n ih =>
      intro w ov p hp h
      rw [bX5_playHour_33]
      by_cases h1 : w 6 ≤ nI p
      · rw [if_pos h1]; exact Cn_upd (by omega) (by omega) (by omega) h
      · rw [if_neg h1]
        have hp2 := h.lt6 (by omega) h1
        split
        · exact ih _ _ _ (by omega) h
        · exact ih _ _ _ (by omega) (Cn_upd (by omega) (by omega) (by omega) h)
  have k1 : ∀ (n : Nat) (w : Row) (ov : Int32) (p : Nat), p ≤ 12 → Cn w → Cn (bX5_playHour_4 n w ov p).2 := by
    intro n
    induction n with
    | zero => intro w ov p _ h; exact h
    | succ n ih =>
      intro w ov p hp h
      rw [bX5_playHour_4]
      by_cases h1 : w 5 ≤ nI p
      · rw [if_pos h1]; exact k2 _ _ _ _ (by omega) h
      · rw [if_neg h1]
        have hp2 := h.lt5 (by omega) h1
        exact ih _ _ _ (by omega) (Cn_letOver (by omega) h)
  unfold sX5_playHour
  exact k1 _ _ _ _ (by omega) h
def bX5_passHours_33  (x : Int32) : Nat → Row → Int32 → Nat → Int32 × Row
  | 0, w33, _, _ => (0, w33)
  | n + 1, w33, ov, p => if x ≤ nI p then ((ov, w33)) else (bX5_passHours_33 x n ((sX5_playHour w33).2) (ov + ((sX5_playHour w33).1)) (p + 1))
def sX5_passHours (w : Row) (x : Int32) : Int32 × Row := if x < 1 then (((-2), w)) else (if x ≤ 99 then (if (w 4) + x ≤ 9999 then (bX5_passHours_33 x 100 w 0 0) else (((-5), w))) else (((-2), w)))
set_option maxHeartbeats 4000000 in
set_option maxRecDepth 100000 in
theorem mX5_passHours (l : Launch) (E : EE) (B : Nat) (g : GS) (k : Nat) (x : Int32) (w : Row) (hk : k < 11)  (hcn : Cn w) : CG l yX5_passHours cX5_passHours 4 (some .int) 5 115 E B [.ref (B + wo k), .int x] (upW g k w) (some (.int (sX5_passHours w x).1)) (upW g k ((sX5_passHours w x).2)) := by
  refine mkI (own := RX5) (ty := .int) rfl (by decide) rfl (rfl) (Nat.le_of_ble_eq_true rfl) (fun P_ e_ s_ m_ a_ below meth cd Q X fin ls hl hJ => ?_)
  have hx := X.1
  have hb := X.2.1
  have hl : lv_has ls 4 [(0, .ref (B + wo k)), (1, .int x)] := hl
  have bk_33 : ∀ (n : Nat) (w33 : Row)  (ov : Int32)  (p : Nat), 99 - p < n → (Cn w33) → (sm x 99) → (p ≤ 99) → ∀ (H : Heap) (locs : List Loc) (ls : Array Slot), JG E B s_ (upW g k w33) H locs → lv_has ls 4 [(0, .ref (B + wo k)), (1, .int x), (2, .int ov), (3, .int (nI p))] → sX5_passHours w x = bX5_passHours_33 x n w33 ov p → W P_ l e_ (rmm 5 115 0 0) s_ m_ a_ below meth cd H locs 0 0 Q (F0 m_ 33 ls []) := by
    intro n
    induction n with
    | zero => intro w33 ov p hm; exact absurd hm (Nat.not_lt_zero _)
    | succ n ih =>
      intro w33 ov p hm hcn hxr hp H locs ls hJ hl hs
      refine lv_iload_n hx hb dX5_passHours_33 rfl (lv_at hl 3 rfl) ?_
      refine lv_iload_n hx hb dX5_passHours_34 rfl (lv_at hl 1 rfl) ?_
      refine lv_icmp_ge (tgt := 51) hx hb dX5_passHours_35 (by decide) (fun c_35 => ?_) (fun c_35 => ?_)
      · skip
        refine lv_iload_n hx hb dX5_passHours_51 rfl (lv_at hl 2 rfl) ?_
        have hs : sX5_passHours w x = (ov, w33) := hs.trans (by rw [bX5_passHours_33, if_pos c_35])
        exact fin (by rw [hs]; dsimp only; exact hJ) (by rw [hs]) dX5_passHours_52
      · skip
        have hp2 : p < 99 := by have := (not_congr (cnt_le (p := p) hxr (by omega))).mp c_35; have := hxr.le; omega
        refine lv_iload_n hx hb dX5_passHours_38 rfl (lv_at hl 2 rfl) ?_
        refine lv_aload_n hx hb dX5_passHours_39 rfl (lv_at hl 0 rfl) ?_
        refine kX5_142 X hJ (mX5_playHour l E B _ k w33 (by omega) (hcn)) rfl (lt_W0 (by omega)) (at_W (by omega) rfl) hl.1 ⟨Nat.le_of_ble_eq_true rfl, Nat.le_of_ble_eq_true rfl⟩ ⟨Nat.le_refl _, Nat.le_refl _⟩ (rest := [.int ov]) rfl (Nat.le_of_ble_eq_true rfl) dX5_passHours_40 (fun H locs hJ => ?_)
        refine lv_iadd hx hb dX5_passHours_43 ?_
        refine lv_istore_n (lv' := [(2, .int (ov + ((sX5_playHour w33).1))), (0, .ref (B + wo k)), (1, .int x), (3, .int (nI p))]) hx hb dX5_passHours_44 rfl hl (by decide) rfl (fun ls hl => ?_)
        refine lv_iinc (v := nI (p + 1)) (lv' := [(3, .int (nI (p + 1))), (2, .int (ov + ((sX5_playHour w33).1))), (0, .ref (B + wo k)), (1, .int x)]) hx hb dX5_passHours_45 hl (k := 3) rfl (by first | exact nI_add _ _ | rfl) (by decide) rfl (fun ls hl => ?_)
        refine lv_goto (tgt := 33) hx hb dX5_passHours_48 (by decide) ?_
        have hs : sX5_passHours w x = bX5_passHours_33 x n ((sX5_playHour w33).2) (ov + ((sX5_playHour w33).1)) (p + 1) := hs.trans (by rw [bX5_passHours_33, if_neg c_35])
        exact ih ((sX5_playHour w33).2) (ov + ((sX5_playHour w33).1)) (p + 1) (by omega) (Cn_playHour (hcn)) (hxr) (by omega) _ _ _ hJ (lv_sub hl [2, 3, 1, 0] rfl) hs
  refine lv_iload_n hx hb dX5_passHours_0 rfl (lv_at hl 1 rfl) ?_
  refine lv_iconst (v := 1) hx hb dX5_passHours_1 (by decide) ?_
  refine lv_icmp_lt (tgt := 11) hx hb dX5_passHours_2 (by decide) (fun c_2 => ?_) (fun c_2 => ?_)
  · skip
    refine lv_bipush (v := (-2)) hx hb dX5_passHours_11 (by decide) ?_
    have hs : sX5_passHours w x = ((-2), w) := by unfold sX5_passHours; rw [if_pos c_2]
    exact fin (by rw [hs]; dsimp only; exact hJ) (by rw [hs]) dX5_passHours_13
  · skip
    refine lv_iload_n hx hb dX5_passHours_5 rfl (lv_at hl 1 rfl) ?_
    refine lv_bipush (v := 99) hx hb dX5_passHours_6 (by decide) ?_
    refine lv_icmp_le (tgt := 14) hx hb dX5_passHours_8 (by decide) (fun c_8 => ?_) (fun c_8 => ?_)
    · skip
      refine lv_aload_n hx hb dX5_passHours_14 rfl (lv_at hl 0 rfl) ?_
      refine gX5_63 X hJ (k := k) (w := w) (by omega) upW_1 dX5_passHours_15 ?_
      refine lv_iload_n hx hb dX5_passHours_18 rfl (lv_at hl 1 rfl) ?_
      refine lv_iadd hx hb dX5_passHours_19 ?_
      refine lv_sipush (v := 9999) hx hb dX5_passHours_20 (by decide) ?_
      refine lv_icmp_le (tgt := 29) hx hb dX5_passHours_23 (by decide) (fun c_23 => ?_) (fun c_23 => ?_)
      · skip
        refine lv_iconst (v := 0) hx hb dX5_passHours_29 (by decide) ?_
        refine lv_istore_n (lv' := [(2, .int 0), (0, .ref (B + wo k)), (1, .int x)]) hx hb dX5_passHours_30 rfl hl (by decide) rfl (fun ls hl => ?_)
        refine lv_iconst (v := 0) hx hb dX5_passHours_31 (by decide) ?_
        refine lv_istore_n (lv' := [(3, .int 0), (2, .int 0), (0, .ref (B + wo k)), (1, .int x)]) hx hb dX5_passHours_32 rfl hl (by decide) rfl (fun ls hl => ?_)
        have hs : sX5_passHours w x = bX5_passHours_33 x 100 w 0 0 := by unfold sX5_passHours; rw [if_neg c_2, if_pos c_8, if_pos c_23]
        exact bk_33 100 w 0 0 (by omega) (hcn) (sm_rng (lo := 1) (hi := 99) c_2 c_8 (by omega) (by omega)) (by omega) _ _ _ hJ (lv_sub hl [2, 3, 1, 0] rfl) hs
      · skip
        refine lv_bipush (v := (-5)) hx hb dX5_passHours_26 (by decide) ?_
        have hs : sX5_passHours w x = ((-5), w) := by unfold sX5_passHours; rw [if_neg c_2, if_pos c_8, if_neg c_23]
        exact fin (by rw [hs]; dsimp only; exact hJ) (by rw [hs]) dX5_passHours_28
    · skip
      refine lv_bipush (v := (-2)) hx hb dX5_passHours_11 (by decide) ?_
      have hs : sX5_passHours w x = ((-2), w) := by unfold sX5_passHours; rw [if_neg c_2, if_neg c_8]
      exact fin (by rw [hs]; dsimp only; exact hJ) (by rw [hs]) dX5_passHours_13

