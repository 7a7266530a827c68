def sX7_wipe (r : Row) : Int32 × Row := (r 1, upd r (1) 0)
set_option maxHeartbeats 4000000 in
set_option maxRecDepth 100000 in
theorem mX7_wipe (l : Launch) (E : EE) (B : Nat) (g : GS)  (r : Row)  : CG l yX7_wipe cX7_wipe 2 (some .int) 0 0 E B [.ref (B + 459)] (upR g r) (some (.int (sX7_wipe r).1)) (upR g ((sX7_wipe r).2)) := by
  refine mkI (own := RX7) (ty := .int) rfl (by decide) rfl (rfl) (Nat.le_of_ble_eq_true rfl) (fun P_ e_ s_ m_ a_ below meth cd Q X fin ls hl hJ => ?_)
  have hx := X.1
  have hb := X.2.1
  have hl : lv_has ls 2 [(0, .ref (B + 459))] := hl
  refine lv_aload_n hx hb dX7_wipe_0 rfl (lv_at hl 0 rfl) ?_
  refine gX7_156 X hJ (w := r) rfl dX7_wipe_1 ?_
  refine lv_istore_n (lv' := [(1, .int (r 1)), (0, .ref (B + 459))]) hx hb dX7_wipe_4 rfl hl (by decide) rfl (fun ls hl => ?_)
  refine lv_aload_n hx hb dX7_wipe_5 rfl (lv_at hl 1 rfl) ?_
  refine lv_iconst (v := 0) hx hb dX7_wipe_6 (by decide) ?_
  refine pX7_156 X hJ  dX7_wipe_7 (fun H locs hJ => ?_)
  refine lv_iload_n hx hb dX7_wipe_10 rfl (lv_at hl 0 rfl) ?_
  have hs : sX7_wipe r = (r 1, upd r (1) 0) := by unfold sX7_wipe; rfl
  exact fin (by rw [hs]; dsimp only; exact hJ) (by rw [hs]) dX7_wipe_11

def bX7_charactersOf_5 (z : Int64) : Nat → Int64 → Nat → Int32
  | 0, _, _ => 0
  | n + 1, lf, p => if 8 ≤ nI p then (if lg_cmp lf 0 = 0 then (nI p) else (0)) else (if sX7_in (lf &&& 255) 33 126 = 0 then (if lg_cmp lf 0 = 0 then (nI p) else (0)) else (bX7_charactersOf_5 z n (lushr lf 8) (p + 1)))
def sX7_charactersOf (z : Int64) : Int32 := bX7_charactersOf_5 z 9 z 0
set_option maxHeartbeats 4000000 in
set_option maxRecDepth 100000 in
theorem mX7_charactersOf (l : Launch) (E : EE) (B : Nat) (g : GS) (z : Int64) : CG l yX7_charactersOf cX7_charactersOf 5 (some .int) 1 25 E B [.long z] g (some (.int (sX7_charactersOf z))) g := by
  refine mkI (own := RX7) (ty := .int) rfl (by decide) rfl (rfl) (Nat.le_of_ble_eq_true rfl) (fun P_ e_ s_ m_ a_ below meth cd Q X fin ls hl hJ => ?_)
  have hx := X.1
  have hb := X.2.1
  have hl : lv_has ls 5 [(0, .long z)] := hl
  have bk_5 : ∀ (n : Nat) (lf : Int64)  (p : Nat), 8 - p < n → (p ≤ 8) → ∀ (H : Heap) (locs : List Loc) (ls : Array Slot), JG E B s_ (g) H locs → lv_has ls 5 [(0, .long z), (2, .long lf), (4, .int (nI p))] → sX7_charactersOf z = bX7_charactersOf_5 z n lf p → W P_ l e_ (rmm 1 25 0 0) s_ m_ a_ below meth cd H locs 0 0 Q (F0 m_ 5 ls []) := by
    intro n
    induction n with
    | zero => intro lf p hm; exact absurd hm (Nat.not_lt_zero _)
    | succ n ih =>
      intro lf p hm hp H locs ls hJ hl hs
      refine lv_iload hx hb dX7_charactersOf_5 (lv_at hl 2 rfl) ?_
      refine lv_bipush (v := 8) hx hb dX7_charactersOf_7 (by decide) ?_
      refine lv_icmp_ge (tgt := 40) hx hb dX7_charactersOf_9 (by decide) (fun c_9 => ?_) (fun c_9 => ?_)
      · skip
        refine lv_lload_n hx hb dX7_charactersOf_40 rfl (lv_at hl 1 rfl) ?_
        refine lv_lconst (v := 0) hx hb dX7_charactersOf_41 (by decide) ?_
        refine W.lcmp hx hb dX7_charactersOf_42 ?_
        refine lv_if_ne (tgt := 51) hx hb dX7_charactersOf_43 (by decide) (fun c_43 => ?_) (fun c_43 => ?_)
        · skip
          refine lv_iconst (v := 0) hx hb dX7_charactersOf_51 (by decide) ?_
          have hs : sX7_charactersOf z = 0 := hs.trans (by rw [bX7_charactersOf_5, if_pos c_9, if_neg c_43])
          exact fin hJ (by rw [hs]) dX7_charactersOf_52
        · skip
          refine lv_iload hx hb dX7_charactersOf_46 (lv_at hl 2 rfl) ?_
          refine lv_goto (tgt := 52) hx hb dX7_charactersOf_48 (by decide) ?_
          have hs : sX7_charactersOf z = nI p := hs.trans (by rw [bX7_charactersOf_5, if_pos c_9, if_pos c_43])
          exact fin hJ (by rw [hs]) dX7_charactersOf_52
      · skip
        have hp2 := lit_lt (n := 8) c_9 (by omega) (by omega)
        refine lv_lload_n hx hb dX7_charactersOf_12 rfl (lv_at hl 1 rfl) ?_
        refine lv_ldc2 (own := RX7) hx hb X.2.2.2.1 (X.2.2.2.2.1 (.constantLong RX7 189 255) (tw (i := 1038) (by decide +kernel) (by decide))) dX7_charactersOf_13 ?_
        refine lv_land hx hb dX7_charactersOf_16 ?_
        refine lv_ldc2 (own := RX7) hx hb X.2.2.2.1 (X.2.2.2.2.1 (.constantLong RX7 191 33) (tw (i := 1039) (by decide +kernel) (by decide))) dX7_charactersOf_17 ?_
        refine lv_ldc2 (own := RX7) hx hb X.2.2.2.1 (X.2.2.2.2.1 (.constantLong RX7 193 126) (tw (i := 1040) (by decide +kernel) (by decide))) dX7_charactersOf_20 ?_
        refine kX7_81 X hJ (mX7_in l E B _ (lf &&& 255) 33 126) rfl hl.1 ⟨Nat.le_of_ble_eq_true rfl, Nat.le_of_ble_eq_true rfl⟩ ⟨Nat.le_refl _, Nat.le_refl _⟩ (rest := []) rfl (Nat.le_of_ble_eq_true rfl) dX7_charactersOf_23 (fun H locs hJ => ?_)
        refine lv_if_eq (tgt := 40) hx hb dX7_charactersOf_26 (by decide) (fun c_26 => ?_) (fun c_26 => ?_)
        · skip
          refine lv_lload_n hx hb dX7_charactersOf_40 rfl (lv_at hl 1 rfl) ?_
          refine lv_lconst (v := 0) hx hb dX7_charactersOf_41 (by decide) ?_
          refine W.lcmp hx hb dX7_charactersOf_42 ?_
          refine lv_if_ne (tgt := 51) hx hb dX7_charactersOf_43 (by decide) (fun c_43 => ?_) (fun c_43 => ?_)
          · skip
            refine lv_iconst (v := 0) hx hb dX7_charactersOf_51 (by decide) ?_
            have hs : sX7_charactersOf z = 0 := hs.trans (by rw [bX7_charactersOf_5, if_neg c_9, if_pos c_26, if_neg c_43])
            exact fin hJ (by rw [hs]) dX7_charactersOf_52
          · skip
            refine lv_iload hx hb dX7_charactersOf_46 (lv_at hl 2 rfl) ?_
            refine lv_goto (tgt := 52) hx hb dX7_charactersOf_48 (by decide) ?_
            have hs : sX7_charactersOf z = nI p := hs.trans (by rw [bX7_charactersOf_5, if_neg c_9, if_pos c_26, if_pos c_43])
            exact fin hJ (by rw [hs]) dX7_charactersOf_52
        · skip
          refine lv_lload_n hx hb dX7_charactersOf_29 rfl (lv_at hl 1 rfl) ?_
          refine lv_bipush (v := 8) hx hb dX7_charactersOf_30 (by decide) ?_
          refine lv_lushr hx hb dX7_charactersOf_32 rfl ?_
          refine lv_lstore_n (lv' := [(2, .long (lushr lf 8)), (0, .long z), (4, .int (nI p))]) hx hb dX7_charactersOf_33 rfl hl (by decide) rfl (fun ls hl => ?_)
          refine lv_iinc (v := nI (p + 1)) (lv' := [(4, .int (nI (p + 1))), (2, .long (lushr lf 8)), (0, .long z)]) hx hb dX7_charactersOf_34 hl (k := 2) rfl (by first | exact nI_add _ _ | rfl) (by decide) rfl (fun ls hl => ?_)
          refine lv_goto (tgt := 5) hx hb dX7_charactersOf_37 (by decide) ?_
          have hs : sX7_charactersOf z = bX7_charactersOf_5 z n (lushr lf 8) (p + 1) := hs.trans (by rw [bX7_charactersOf_5, if_neg c_9, if_neg c_26])
          exact ih (lushr lf 8) (p + 1) (by omega) (by omega) _ _ _ hJ (lv_sub hl [2, 1, 0] rfl) hs
  refine lv_lload_n hx hb dX7_charactersOf_0 rfl (lv_at hl 0 rfl) ?_
  refine lv_lstore_n (lv' := [(2, .long z), (0, .long z)]) hx hb dX7_charactersOf_1 rfl hl (by decide) rfl (fun ls hl => ?_)
  refine lv_iconst (v := 0) hx hb dX7_charactersOf_2 (by decide) ?_
  refine lv_istore (lv' := [(4, .int 0), (2, .long z), (0, .long z)]) hx hb dX7_charactersOf_3 hl (by decide) rfl (fun ls hl => ?_)
  have hs : sX7_charactersOf z = bX7_charactersOf_5 z 9 z 0 := by unfold sX7_charactersOf; rfl
  exact bk_5 9 z 0 (by omega) (by omega) _ _ _ hJ (lv_sub hl [2, 1, 0] rfl) hs

theorem charsOf_sm {z : Int64} : sm (sX7_charactersOf z) 8 := by
  have key : ∀ (n : Nat) (lf : Int64) (p : Nat), p ≤ 8 → sm (bX7_charactersOf_5 z n lf p) 8 := by
    intro n
    induction n with
    | zero => intro lf p _; exact (show sm (0 : Int32) 8 from ⟨by decide, by decide⟩)
    | succ n ih =>
      intro lf p hp
      rw [bX7_charactersOf_5]
      have e : sm (0 : Int32) 8 := ⟨by decide, by decide⟩
      by_cases h1 : 8 ≤ nI p
      · rw [if_pos h1]; split <;> first | exact e | exact sm_nI hp (by omega)
      rw [if_neg h1]
      have hp2 := lit_lt (n := 8) h1 (by omega) (by omega)
      split
      · split <;> first | exact e | exact sm_nI hp (by omega)
      · exact ih _ _ (by omega)
  unfold sX7_charactersOf
  exact key _ _ _ (by omega)
theorem put_b {a b : Int32} (ha : sm a 80) (hb : sm b 8) (h : a + b ≤ 80) : nn a + nn b ≤ 80 := by
  have h1 := ha.le
  have h2 := hb.le
  rw [ha.eq, hb.eq, nI_add] at h
  rcases Nat.lt_or_ge 80 (nn a + nn b) with q | q
  · exact absurd h (nI_ge (a := 80) q (by omega))
  · exact q
def bX7_put_29 (z : Int64) : Nat → Row → Nat → Int32 × Row
  | 0, w29, _ => (0, w29)
  | n + 1, w29, p => if (sX7_charactersOf z) ≤ nI p then (((upd w29 (1) ((w29 1) + (sX7_charactersOf z))) 1, upd w29 (1) ((w29 1) + (sX7_charactersOf z)))) else (bX7_put_29 z n (upd w29 (100 + (nn (w29 1) + p)) (((lushr z (8 * (((sX7_charactersOf z) - 1) - (nI p)))) &&& 255).toInt32)) (p + 1))
def sX7_put (r : Row) (z : Int64) : Int32 × Row := if sX7_charactersOf z = 0 then (((-2), r)) else (if (r 1) + (sX7_charactersOf z) ≤ 80 then (bX7_put_29 z 9 r 0) else (((-4), r)))
set_option maxHeartbeats 4000000 in
set_option maxRecDepth 100000 in
theorem mX7_put (l : Launch) (E : EE) (B : Nat) (g : GS) (z : Int64) (r : Row)  (hpt : Pq 0 r) : CG l yX7_put cX7_put 5 (some .int) 2 49 E B [.ref (B + 459), .long z] (upR g r) (some (.int (sX7_put r z).1)) (upR g ((sX7_put r z).2)) := by
  refine mkI (own := RX7) (ty := .int) rfl (by decide) rfl (rfl) (Nat.le_of_ble_eq_true rfl) (fun P_ e_ s_ m_ a_ below meth cd Q X fin ls hl hJ => ?_)
  have hx := X.1
  have hb := X.2.1
  have hl : lv_has ls 5 [(0, .ref (B + 459)), (1, .long z)] := hl
  have bk_29 : ∀ (n : Nat) (w29 : Row)  (p : Nat), 8 - p < n → (Pq 0 w29) → (nn (w29 1) + nn (sX7_charactersOf z) ≤ 80) → (p ≤ 8) → ∀ (H : Heap) (locs : List Loc) (ls : Array Slot), JG E B s_ (upR g w29) H locs → lv_has ls 5 [(0, .ref (B + 459)), (1, .long z), (3, .int (sX7_charactersOf z)), (4, .int (nI p))] → sX7_put r z = bX7_put_29 z n w29 p → W P_ l e_ (rmm 2 49 0 0) s_ m_ a_ below meth cd H locs 0 0 Q (F0 m_ 29 ls []) := by
    intro n
    induction n with
    | zero => intro w29 p hm; exact absurd hm (Nat.not_lt_zero _)
    | succ n ih =>
      intro w29 p hm hpt hb8 hp H locs ls hJ hl hs
      refine lv_iload hx hb dX7_put_29 (lv_at hl 3 rfl) ?_
      refine lv_iload_n hx hb dX7_put_31 rfl (lv_at hl 2 rfl) ?_
      refine lv_icmp_ge (tgt := 69) hx hb dX7_put_32 (by decide) (fun c_32 => ?_) (fun c_32 => ?_)
      · skip
        refine lv_aload_n hx hb dX7_put_69 rfl (lv_at hl 0 rfl) ?_
        refine lv_dup hx hb dX7_put_70 rfl ?_
        refine gX7_156 X hJ (w := w29) rfl dX7_put_71 ?_
        refine lv_iload_n hx hb dX7_put_74 rfl (lv_at hl 2 rfl) ?_
        refine lv_iadd hx hb dX7_put_75 ?_
        refine pX7_156 X hJ  dX7_put_76 (fun H locs hJ => ?_)
        refine lv_aload_n hx hb dX7_put_79 rfl (lv_at hl 0 rfl) ?_
        refine gX7_156 X hJ (w := upd w29 (1) ((w29 1) + (sX7_charactersOf z))) rfl dX7_put_80 ?_
        have hs : sX7_put r z = ((upd w29 (1) ((w29 1) + (sX7_charactersOf z))) 1, upd w29 (1) ((w29 1) + (sX7_charactersOf z))) := hs.trans (by rw [bX7_put_29, if_pos c_32])
        exact fin (by rw [hs]; dsimp only; exact hJ) (by rw [hs]) dX7_put_83
      · skip
        have hp2 : p < nn (sX7_charactersOf z) := by have := (not_congr (cnt_le (p := p) (charsOf_sm (z := z)) (by omega))).mp c_32; omega
        have hp3 := (charsOf_sm (z := z)).le
        refine lv_aload_n hx hb dX7_put_35 rfl (lv_at hl 0 rfl) ?_
        refine gX7_17 X hJ (w := w29) rfl dX7_put_36 ?_
        refine lv_aload_n hx hb dX7_put_39 rfl (lv_at hl 0 rfl) ?_
        refine gX7_156 X hJ (w := w29) rfl dX7_put_40 ?_
        refine cvt (y := nI (nn (w29 1))) (hpt.1.1.eq) ?_
        refine lv_iload hx hb dX7_put_43 (lv_at hl 3 rfl) ?_
        refine xiadd (z := nI (nn (w29 1) + p)) hx hb dX7_put_45 (nI_add (nn (w29 1)) p) ?_
        refine lv_lload_n hx hb dX7_put_46 rfl (lv_at hl 1 rfl) ?_
        refine lv_bipush (v := 8) hx hb dX7_put_47 (by decide) ?_
        refine lv_iload_n hx hb dX7_put_49 rfl (lv_at hl 2 rfl) ?_
        refine lv_iconst (v := 1) hx hb dX7_put_50 (by decide) ?_
        refine lv_isub hx hb dX7_put_51 ?_
        refine lv_iload hx hb dX7_put_52 (lv_at hl 3 rfl) ?_
        refine lv_isub hx hb dX7_put_54 ?_
        refine lv_imul hx hb dX7_put_55 ?_
        refine lv_lushr hx hb dX7_put_56 rfl ?_
        refine lv_ldc2 (own := RX7) hx hb X.2.2.2.1 (X.2.2.2.2.1 (.constantLong RX7 189 255) (tw (i := 1038) (by decide +kernel) (by decide))) dX7_put_57 ?_
        refine lv_land hx hb dX7_put_60 ?_
        refine lv_l2i hx hb dX7_put_61 rfl ?_
        refine st_text X hJ (j := nn (w29 1) + p) (rfl) (by omega) dX7_put_62 (fun H locs hJ => ?_)
        refine lv_iinc (v := nI (p + 1)) (lv' := [(4, .int (nI (p + 1))), (0, .ref (B + 459)), (1, .long z), (3, .int (sX7_charactersOf z))]) hx hb dX7_put_63 hl (k := 3) rfl (by first | exact nI_add _ _ | rfl) (by decide) rfl (fun ls hl => ?_)
        refine lv_goto (tgt := 29) hx hb dX7_put_66 (by decide) ?_
        have hs : sX7_put r z = bX7_put_29 z n (upd w29 (100 + (nn (w29 1) + p)) (((lushr z (8 * (((sX7_charactersOf z) - 1) - (nI p)))) &&& 255).toInt32)) (p + 1) := hs.trans (by rw [bX7_put_29, if_neg c_32])
        exact ih (upd w29 (100 + (nn (w29 1) + p)) (((lushr z (8 * (((sX7_charactersOf z) - 1) - (nI p)))) &&& 255).toInt32)) (p + 1) (by omega) (Pq_upd (by omega) (by omega) (hpt)) (by rw [updn (by omega)]; exact hb8) (by omega) _ _ _ hJ (lv_sub hl [1, 2, 3, 0] rfl) hs
  refine lv_lload_n hx hb dX7_put_0 rfl (lv_at hl 1 rfl) ?_
  refine kX7_195 X hJ (mX7_charactersOf l E B _ z) rfl hl.1 ⟨Nat.le_of_ble_eq_true rfl, Nat.le_of_ble_eq_true rfl⟩ ⟨Nat.le_refl _, Nat.le_refl _⟩ (rest := []) rfl (Nat.le_of_ble_eq_true rfl) dX7_put_1 (fun H locs hJ => ?_)
  refine lv_istore_n (lv' := [(3, .int (sX7_charactersOf z)), (0, .ref (B + 459)), (1, .long z)]) hx hb dX7_put_4 rfl hl (by decide) rfl (fun ls hl => ?_)
  refine lv_iload_n hx hb dX7_put_5 rfl (lv_at hl 0 rfl) ?_
  refine lv_if_ne (tgt := 12) hx hb dX7_put_6 (by decide) (fun c_6 => ?_) (fun c_6 => ?_)
  · skip
    refine lv_aload_n hx hb dX7_put_12 rfl (lv_at hl 1 rfl) ?_
    refine gX7_156 X hJ (w := r) rfl dX7_put_13 ?_
    refine lv_iload_n hx hb dX7_put_16 rfl (lv_at hl 0 rfl) ?_
    refine lv_iadd hx hb dX7_put_17 ?_
    refine lv_bipush (v := 80) hx hb dX7_put_18 (by decide) ?_
    refine lv_icmp_le (tgt := 26) hx hb dX7_put_20 (by decide) (fun c_20 => ?_) (fun c_20 => ?_)
    · skip
      refine lv_iconst (v := 0) hx hb dX7_put_26 (by decide) ?_
      refine lv_istore (lv' := [(4, .int 0), (3, .int (sX7_charactersOf z)), (0, .ref (B + 459)), (1, .long z)]) hx hb dX7_put_27 hl (by decide) rfl (fun ls hl => ?_)
      have hs : sX7_put r z = bX7_put_29 z 9 r 0 := by unfold sX7_put; rw [if_neg c_6, if_pos c_20]
      exact bk_29 9 r 0 (by omega) (hpt) (put_b hpt.1.1 charsOf_sm c_20) (by omega) _ _ _ hJ (lv_sub hl [2, 3, 1, 0] rfl) hs
    · skip
      refine lv_bipush (v := (-4)) hx hb dX7_put_23 (by decide) ?_
      have hs : sX7_put r z = ((-4), r) := by unfold sX7_put; rw [if_neg c_6, if_neg c_20]
      exact fin (by rw [hs]; dsimp only; exact hJ) (by rw [hs]) dX7_put_25
  · skip
    refine lv_bipush (v := (-2)) hx hb dX7_put_9 (by decide) ?_
    have hs : sX7_put r z = ((-2), r) := by unfold sX7_put; rw [if_pos c_6]
    exact fin (by rw [hs]; dsimp only; exact hJ) (by rw [hs]) dX7_put_11

def sX7_sign (r : Row) (x : Int32) : Int32 := if sX7_in x.toInt64 0 (((r 1) - 1).toInt64) = 0 then ((-1)) else (r (100 + (nn x)))
set_option maxHeartbeats 4000000 in
set_option maxRecDepth 100000 in
theorem mX7_sign (l : Launch) (E : EE) (B : Nat) (g : GS) (x : Int32) (r : Row)  (hw : g.2.2.2 = r) (hpt : Pq 0 r) : CG l yX7_sign cX7_sign 2 (some .int) 1 25 E B [.ref (B + 459), .int x] g (some (.int (sX7_sign r x))) g := by
  refine mkI (own := RX7) (ty := .int) rfl (by decide) rfl (rfl) (Nat.le_of_ble_eq_true rfl) (fun P_ e_ s_ m_ a_ below meth cd Q X fin ls hl hJ => ?_)
  have hx := X.1
  have hb := X.2.1
  have hl : lv_has ls 2 [(0, .ref (B + 459)), (1, .int x)] := hl
  refine lv_iload_n hx hb dX7_sign_0 rfl (lv_at hl 1 rfl) ?_
  refine lv_i2l hx hb dX7_sign_1 rfl ?_
  refine lv_lconst (v := 0) hx hb dX7_sign_2 (by decide) ?_
  refine lv_aload_n hx hb dX7_sign_3 rfl (lv_at hl 0 rfl) ?_
  refine gX7_156 X hJ (w := r) hw dX7_sign_4 ?_
  refine lv_iconst (v := 1) hx hb dX7_sign_7 (by decide) ?_
  refine lv_isub hx hb dX7_sign_8 ?_
  refine lv_i2l hx hb dX7_sign_9 rfl ?_
  refine kX7_81 X hJ (mX7_in l E B _ x.toInt64 0 (((r 1) - 1).toInt64)) rfl hl.1 ⟨Nat.le_of_ble_eq_true rfl, Nat.le_of_ble_eq_true rfl⟩ ⟨Nat.le_refl _, Nat.le_refl _⟩ (rest := []) rfl (Nat.le_of_ble_eq_true rfl) dX7_sign_10 (fun H locs hJ => ?_)
  refine lv_if_eq (tgt := 25) hx hb dX7_sign_13 (by decide) (fun c_13 => ?_) (fun c_13 => ?_)
  · skip
    refine lv_iconst (v := (-1)) hx hb dX7_sign_25 (by decide) ?_
    have hs : sX7_sign r x = (-1) := by unfold sX7_sign; rw [if_pos c_13]
    exact fin hJ (by rw [hs]) dX7_sign_26
  · skip
    have hx4 := (sm_of hpt.1.1 ((in_cnt hpt.1.1).mp c_13).1 ((in_cnt hpt.1.1).mp c_13).2).2.2
    have hl : lv_has ls 2 [(0, .ref (B + 459)), (1, .int (nI (nn x)))] := by rw [← show x = nI (nn x) from (sm_of hpt.1.1 ((in_cnt hpt.1.1).mp c_13).1 ((in_cnt hpt.1.1).mp c_13).2).1]; exact hl
    refine lv_aload_n hx hb dX7_sign_16 rfl (lv_at hl 0 rfl) ?_
    refine gX7_17 X hJ (w := r) hw dX7_sign_17 ?_
    refine lv_iload_n hx hb dX7_sign_20 rfl (lv_at hl 1 rfl) ?_
    refine ld_text X hJ (w := r) hw (j := nn x) (rfl) (by omega) dX7_sign_21 ?_
    refine lv_goto (tgt := 26) hx hb dX7_sign_22 (by decide) ?_
    have hs : sX7_sign r x = r (100 + (nn x)) := by unfold sX7_sign; rw [if_neg c_13]
    exact fin hJ (by rw [hs]) dX7_sign_26

