def sX6_undo (g : GS) : Int32 × GS := if g.2.1 1 = 0 then (((-5), g)) else ((((sX2_takeBack g).2.1) 1, (sX2_takeBack g)))
set_option maxHeartbeats 4000000 in
set_option maxRecDepth 100000 in
theorem mX6_undo (l : Launch) (E : EE) (B : Nat) (g : GS)  (hgn : Gn g) : CG l yX6_undo cX6_undo 1 (some .int) 4 104 E B [.ref (B + 0)] g (some (.int (sX6_undo g).1)) ((sX6_undo g).2) := by
  refine mkI (own := RX6) (ty := .int) rfl (by decide) rfl (rfl) (Nat.le_of_ble_eq_true rfl) (fun P_ e_ s_ m_ a_ below meth cd Q X fin ls hl hJ => ?_)
  have hx := X.1
  have hb := X.2.1
  have hl : lv_has ls 1 [(0, .ref (B + 0))] := hl
  refine lv_aload_n hx hb dX6_undo_0 rfl (lv_at hl 0 rfl) ?_
  refine gX6_22 X hJ  dX6_undo_1 ?_
  refine gX6_133 X hJ (w := g.2.1) rfl dX6_undo_4 ?_
  refine lv_if_ne (tgt := 13) hx hb dX6_undo_7 (by decide) (fun c_7 => ?_) (fun c_7 => ?_)
  · skip
    refine lv_aload_n hx hb dX6_undo_13 rfl (lv_at hl 0 rfl) ?_
    refine gX6_22 X hJ  dX6_undo_14 ?_
    refine lv_aload_n hx hb dX6_undo_17 rfl (lv_at hl 0 rfl) ?_
    refine gX6_10 X hJ  dX6_undo_18 ?_
    refine kX6_201 X hJ (mX2_takeBack l E B g (hgn)) rfl (by omega) (at_H rfl) hl.1 ⟨Nat.le_of_ble_eq_true rfl, Nat.le_of_ble_eq_true rfl⟩ ⟨Nat.le_refl _, Nat.le_refl _⟩ (rest := []) rfl (Nat.le_of_ble_eq_true rfl) dX6_undo_21 (fun H locs hJ => ?_)
    refine lv_aload_n hx hb dX6_undo_24 rfl (lv_at hl 0 rfl) ?_
    refine gX6_22 X hJ  dX6_undo_25 ?_
    refine gX6_133 X hJ (w := (sX2_takeBack g).2.1) rfl dX6_undo_28 ?_
    have hs : sX6_undo g = (((sX2_takeBack g).2.1) 1, (sX2_takeBack g)) := by unfold sX6_undo; rw [if_neg c_7]
    exact fin (by rw [hs]; dsimp only; exact hJ) (by rw [hs]) dX6_undo_31
  · skip
    refine lv_bipush (v := (-5)) hx hb dX6_undo_10 (by decide) ?_
    have hs : sX6_undo g = ((-5), g) := by unfold sX6_undo; rw [if_pos c_7]
    exact fin (by rw [hs]; dsimp only; exact hJ) (by rw [hs]) dX6_undo_12

def bX6_overIn_38 (x : Int32) : Nat → GS → Nat → Nat → Int32 × GS
  | 0, g38, _, _ => (0, g38)
  | n + 1, g38, q, p => if 100 < nI p then (((-6), g38)) else (if sX1_isWaiting ((upW g38 1 (sX5_playHour (g38.1 1)).2).1 1) q = 0 then ((nI p, upW g38 1 (sX5_playHour (g38.1 1)).2)) else (bX6_overIn_38 x n (upW g38 1 (sX5_playHour (g38.1 1)).2) q (p + 1)))
def sX6_overIn (g : GS) (x : Int32) : Int32 × GS := oe (sX5_cartOf ((upW g 1 (g.1 0)).1 1) x) (((-1), upW g 1 (g.1 0))) (fun q1 => if sX1_isWaiting ((upW g 1 (g.1 0)).1 1) q1 = 0 then (((-5), upW g 1 (g.1 0))) else (bX6_overIn_38 x 101 (upW g 1 (g.1 0)) q1 1))
set_option maxHeartbeats 4000000 in
set_option maxRecDepth 100000 in
theorem mX6_overIn (l : Launch) (E : EE) (B : Nat) (g : GS) (x : Int32) (hgn : Gn g) : CG l yX6_overIn cX6_overIn 4 (some .int) 5 115 E B [.ref (B + 0), .int x] g (some (.int (sX6_overIn g x).1)) ((sX6_overIn g x).2) := by
  refine mkI (own := RX6) (ty := .int) rfl (by decide) rfl (rfl) (Nat.le_of_ble_eq_true rfl) (fun P_ e_ s_ m_ a_ below meth cd Q X fin ls hl hJ => ?_)
  have hx := X.1
  have hb := X.2.1
  have hl : lv_has ls 4 [(0, .ref (B + 0)), (1, .int x)] := hl
  have bk_38 : ∀ (n : Nat) (g38 : GS)  (q : Nat)  (p : Nat), 101 - p < n → (Gn g38) → (q < 8) → (p ≤ 101) → ∀ (H : Heap) (locs : List Loc) (ls : Array Slot), JG E B s_ (g38) H locs → lv_has ls 4 [(0, .ref (B + 0)), (2, .ref (B + (wo 1 + (17 + 3 * q)))), (3, .int (nI p))] → sX6_overIn g x = bX6_overIn_38 x n g38 q p → W P_ l e_ (rmm 5 115 0 0) s_ m_ a_ below meth cd H locs 0 0 Q (F0 m_ 38 ls []) := by
    intro n
    induction n with
    | zero => intro g38 q p hm; exact absurd hm (Nat.not_lt_zero _)
    | succ n ih =>
      intro g38 q p hm hgn hq hp H locs ls hJ hl hs
      refine lv_iload_n hx hb dX6_overIn_38 rfl (lv_at hl 2 rfl) ?_
      refine lv_bipush (v := 100) hx hb dX6_overIn_39 (by decide) ?_
      refine lv_icmp_gt (tgt := 67) hx hb dX6_overIn_41 (by decide) (fun c_41 => ?_) (fun c_41 => ?_)
      · skip
        refine lv_bipush (v := (-6)) hx hb dX6_overIn_67 (by decide) ?_
        have hs : sX6_overIn g x = ((-6), g38) := hs.trans (by rw [bX6_overIn_38, if_pos c_41])
        exact fin (by rw [hs]; dsimp only; exact hJ) (by rw [hs]) dX6_overIn_69
      · skip
        have hp2 := ngt_lit (n := 100) c_41 (by omega) (by omega)
        refine lv_aload_n hx hb dX6_overIn_44 rfl (lv_at hl 0 rfl) ?_
        refine gX6_16 X hJ  dX6_overIn_45 ?_
        refine kX6_154 X hJ (by have h := mX5_playHour l E B g38 1 (g38.1 1) (by omega) ((hgn).1 1 (by omega)); rw [upW_self] at h; exact h) rfl (lt_W0 (by omega)) (at_W (by omega) rfl) hl.1 ⟨Nat.le_of_ble_eq_true rfl, Nat.le_of_ble_eq_true rfl⟩ ⟨Nat.le_refl _, Nat.le_refl _⟩ (rest := []) rfl (Nat.le_of_ble_eq_true rfl) dX6_overIn_48 (fun H locs hJ => ?_)
        refine lv_pop hx hb dX6_overIn_51 rfl ?_
        refine lv_aload_n hx hb dX6_overIn_52 rfl (lv_at hl 1 rfl) ?_
        refine kX6_150 X hJ (mX1_isWaiting l E B _ 1 q ((upW g38 1 (sX5_playHour (g38.1 1)).2).1 1) (by omega) (by omega) rfl) rfl (lt_W (by omega) (by omega)) (at_C (by omega) (by omega) rfl) hl.1 ⟨Nat.le_of_ble_eq_true rfl, Nat.le_of_ble_eq_true rfl⟩ ⟨Nat.le_refl _, Nat.le_refl _⟩ (rest := []) rfl (Nat.le_of_ble_eq_true rfl) dX6_overIn_53 (fun H locs hJ => ?_)
        refine lv_if_ne (tgt := 61) hx hb dX6_overIn_56 (by decide) (fun c_56 => ?_) (fun c_56 => ?_)
        · skip
          refine lv_iinc (v := nI (p + 1)) (lv' := [(3, .int (nI (p + 1))), (0, .ref (B + 0)), (2, .ref (B + (wo 1 + (17 + 3 * q))))]) hx hb dX6_overIn_61 hl (k := 2) rfl (by first | exact nI_add _ _ | rfl) (by decide) rfl (fun ls hl => ?_)
          refine lv_goto (tgt := 38) hx hb dX6_overIn_64 (by decide) ?_
          have hs : sX6_overIn g x = bX6_overIn_38 x n (upW g38 1 (sX5_playHour (g38.1 1)).2) q (p + 1) := hs.trans (by rw [bX6_overIn_38, if_neg c_41, if_neg c_56])
          exact ih (upW g38 1 (sX5_playHour (g38.1 1)).2) q (p + 1) (by omega) (Gn_upW (hgn) (Cn_playHour ((hgn).1 1 (by omega)))) (hq) (by omega) _ _ _ hJ (lv_sub hl [1, 2, 0] rfl) hs
        · skip
          refine lv_iload_n hx hb dX6_overIn_59 rfl (lv_at hl 2 rfl) ?_
          have hs : sX6_overIn g x = (nI p, upW g38 1 (sX5_playHour (g38.1 1)).2) := hs.trans (by rw [bX6_overIn_38, if_neg c_41, if_pos c_56])
          exact fin (by rw [hs]; dsimp only; exact hJ) (by rw [hs]) dX6_overIn_60
  refine lv_aload_n hx hb dX6_overIn_0 rfl (lv_at hl 0 rfl) ?_
  refine gX6_16 X hJ  dX6_overIn_1 ?_
  refine lv_aload_n hx hb dX6_overIn_4 rfl (lv_at hl 0 rfl) ?_
  refine gX6_10 X hJ  dX6_overIn_5 ?_
  refine kX6_147 X hJ (nX5_copyFrom l E B g 1 0 (by omega) (by omega) (by omega)) rfl (lt_W0 (by omega)) (at_W (by omega) rfl) hl.1 ⟨Nat.le_of_ble_eq_true rfl, Nat.le_of_ble_eq_true rfl⟩ ⟨Nat.le_refl _, Nat.le_refl _⟩ (rest := []) rfl (Nat.le_of_ble_eq_true rfl) dX6_overIn_8 (fun H locs hJ => ?_)
  refine lv_aload_n hx hb dX6_overIn_11 rfl (lv_at hl 0 rfl) ?_
  refine gX6_16 X hJ  dX6_overIn_12 ?_
  refine lv_iload_n hx hb dX6_overIn_15 rfl (lv_at hl 1 rfl) ?_
  refine kX6_81 X hJ (mX5_cartOf l E B _ 1 x ((upW g 1 (g.1 0)).1 1) (by omega) rfl ((Gn_upW (hgn) ((hgn).1 0 (by omega))).1 1 (by omega))) rfl (lt_W0 (by omega)) (at_W (by omega) rfl) hl.1 ⟨Nat.le_of_ble_eq_true rfl, Nat.le_of_ble_eq_true rfl⟩ ⟨Nat.le_refl _, Nat.le_refl _⟩ (rest := []) rfl (Nat.le_of_ble_eq_true rfl) dX6_overIn_16 (fun H locs hJ => ?_)
  rcases o_16 : sX5_cartOf ((upW g 1 (g.1 0)).1 1) x with _ | q1
  · skip
    refine lv_astore_nN (lv' := [(2, .null), (0, .ref (B + 0)), (1, .int x)]) hx hb dX6_overIn_19 rfl hl (by decide) rfl (fun ls hl => ?_)
    refine lv_aload_nN hx hb dX6_overIn_20 rfl (lv_at hl 0 rfl) ?_
    refine lv_ifnonnullN hx hb dX6_overIn_21 ?_
    refine lv_iconst (v := (-1)) hx hb dX6_overIn_24 (by decide) ?_
    have hs : sX6_overIn g x = ((-1), upW g 1 (g.1 0)) := by unfold sX6_overIn; rw [oe_none o_16]
    exact fin (by rw [hs]; dsimp only; exact hJ) (by rw [hs]) dX6_overIn_25
  · skip
    obtain ⟨hq1, xq1, yq1⟩ := cartOf_some ((Gn_upW (hgn) ((hgn).1 0 (by omega))).1 1 (by omega)) o_16
    refine lv_astore_n (lv' := [(2, .ref (B + (wo 1 + (17 + 3 * q1)))), (0, .ref (B + 0)), (1, .int x)]) hx hb dX6_overIn_19 rfl hl (by decide) rfl (fun ls hl => ?_)
    refine lv_aload_n hx hb dX6_overIn_20 rfl (lv_at hl 0 rfl) ?_
    refine lv_ifnonnull (tgt := 26) hx hb dX6_overIn_21 (by decide) ?_
    refine lv_aload_n hx hb dX6_overIn_26 rfl (lv_at hl 0 rfl) ?_
    refine kX6_150 X hJ (mX1_isWaiting l E B _ 1 q1 ((upW g 1 (g.1 0)).1 1) (by omega) (by omega) rfl) rfl (lt_W (by omega) (by omega)) (at_C (by omega) (by omega) rfl) hl.1 ⟨Nat.le_of_ble_eq_true rfl, Nat.le_of_ble_eq_true rfl⟩ ⟨Nat.le_refl _, Nat.le_refl _⟩ (rest := []) rfl (Nat.le_of_ble_eq_true rfl) dX6_overIn_27 (fun H locs hJ => ?_)
    refine lv_if_ne (tgt := 36) hx hb dX6_overIn_30 (by decide) (fun c_30 => ?_) (fun c_30 => ?_)
    · skip
      refine lv_iconst (v := 1) hx hb dX6_overIn_36 (by decide) ?_
      refine lv_istore_n (lv' := [(3, .int 1), (2, .ref (B + (wo 1 + (17 + 3 * q1)))), (0, .ref (B + 0)), (1, .int x)]) hx hb dX6_overIn_37 rfl hl (by decide) rfl (fun ls hl => ?_)
      have hs : sX6_overIn g x = bX6_overIn_38 x 101 (upW g 1 (g.1 0)) q1 1 := by unfold sX6_overIn; rw [oe_some o_16, if_neg c_30]
      exact bk_38 101 (upW g 1 (g.1 0)) q1 1 (by omega) (Gn_upW (hgn) ((hgn).1 0 (by omega))) (by omega) (by omega) _ _ _ hJ (lv_sub hl [2, 1, 0] rfl) hs
    · skip
      refine lv_bipush (v := (-5)) hx hb dX6_overIn_33 (by decide) ?_
      have hs : sX6_overIn g x = ((-5), upW g 1 (g.1 0)) := by unfold sX6_overIn; rw [oe_some o_16, if_pos c_30]
      exact fin (by rw [hs]; dsimp only; exact hJ) (by rw [hs]) dX6_overIn_35

def bX6_would_38 (x : Int32) (y : Int32) : Nat → GS → Int32 → Nat → Int32 × GS
  | 0, g38, _, _ => (0, g38)
  | n + 1, g38, ov, p => if x ≤ nI p then (if y = 0 then ((ov, g38)) else if y = 1 then (((sX5_sumOverCarts (g38.1 1) 6) - (sX5_sumOverCarts (g38.1 0) 6), g38)) else if y = 2 then (((sX5_sumOverCarts (g38.1 1) 7) - (sX5_sumOverCarts (g38.1 0) 7), g38)) else ((sX5_waitingSet (g38.1 1), g38))) else (bX6_would_38 x y n (upW g38 1 (sX5_playHour (g38.1 1)).2) (ov + ((sX5_playHour (g38.1 1)).1)) (p + 1))
def sX6_would (g : GS) (x : Int32) (y : Int32) : Int32 × GS := if x < 1 then (((-2), g)) else (if 99 < x then (((-2), g)) else (if sX6_isBelow y 4 = 0 then (((-2), g)) else (bX6_would_38 x y 100 (upW g 1 (g.1 0)) 0 0)))
set_option maxHeartbeats 4000000 in
set_option maxRecDepth 100000 in
theorem mX6_would (l : Launch) (E : EE) (B : Nat) (g : GS) (x : Int32) (y : Int32) (hgn : Gn g) : CG l yX6_would cX6_would 5 (some .int) 5 115 E B [.ref (B + 0), .int x, .int y] g (some (.int (sX6_would g x y).1)) ((sX6_would g x y).2) := by
  refine mkI (own := RX6) (ty := .int) rfl (by decide) rfl (rfl) (Nat.le_of_ble_eq_true rfl) (fun P_ e_ s_ m_ a_ below meth cd Q X fin ls hl hJ => ?_)
  have hx := X.1
  have hb := X.2.1
  have hl : lv_has ls 5 [(0, .ref (B + 0)), (1, .int x), (2, .int y)] := hl
  have bk_38 : ∀ (n : Nat) (g38 : GS)  (ov : Int32)  (p : Nat), 99 - p < n → (Gn g38) → (sm x 99) → (p ≤ 99) → ∀ (H : Heap) (locs : List Loc) (ls : Array Slot), JG E B s_ (g38) H locs → lv_has ls 5 [(0, .ref (B + 0)), (1, .int x), (2, .int y), (3, .int ov), (4, .int (nI p))] → sX6_would g x y = bX6_would_38 x y n g38 ov p → W P_ l e_ (rmm 5 115 0 0) s_ m_ a_ below meth cd H locs 0 0 Q (F0 m_ 38 ls []) := by
    intro n
    induction n with
    | zero => intro g38 ov p hm; exact absurd hm (Nat.not_lt_zero _)
    | succ n ih =>
      intro g38 ov p hm hgn hxr hp H locs ls hJ hl hs
      refine lv_iload hx hb dX6_would_38 (lv_at hl 4 rfl) ?_
      refine lv_iload_n hx hb dX6_would_40 rfl (lv_at hl 1 rfl) ?_
      refine lv_icmp_ge (tgt := 60) hx hb dX6_would_41 (by decide) (fun c_41 => ?_) (fun c_41 => ?_)
      · skip
        refine lv_iload_n hx hb dX6_would_60 rfl (lv_at hl 2 rfl) ?_
        by_cases c_61_0 : y = 0
        · rw [c_61_0]
          refine lv_tableIn (tgt := 88) hx hb dX6_would_61 (by decide) (by decide) (off := 27) (by decide) (by decide) ?_
          refine lv_iload_n hx hb dX6_would_88 rfl (lv_at hl 3 rfl) ?_
          have hs : sX6_would g x y = (ov, g38) := hs.trans (by rw [bX6_would_38, if_pos c_41, if_pos c_61_0])
          exact fin (by rw [hs]; dsimp only; exact hJ) (by rw [hs]) dX6_would_89
        by_cases c_61_1 : y = 1
        · rw [c_61_1]
          refine lv_tableIn (tgt := 90) hx hb dX6_would_61 (by decide) (by decide) (off := 29) (by decide) (by decide) ?_
          refine lv_aload_n hx hb dX6_would_90 rfl (lv_at hl 0 rfl) ?_
          refine gX6_16 X hJ  dX6_would_91 ?_
          refine lv_bipush (v := 6) hx hb dX6_would_94 (by decide) ?_
          refine kX6_171 X hJ (mX5_sumOverCarts l E B _ 1 6 (g38.1 1) (by omega) rfl ((hgn).1 1 (by omega))) rfl (lt_W0 (by omega)) (at_W (by omega) rfl) hl.1 ⟨Nat.le_of_ble_eq_true rfl, Nat.le_of_ble_eq_true rfl⟩ ⟨Nat.le_refl _, Nat.le_refl _⟩ (rest := []) rfl (Nat.le_of_ble_eq_true rfl) dX6_would_96 (fun H locs hJ => ?_)
          refine lv_aload_n hx hb dX6_would_99 rfl (lv_at hl 0 rfl) ?_
          refine gX6_10 X hJ  dX6_would_100 ?_
          refine lv_bipush (v := 6) hx hb dX6_would_103 (by decide) ?_
          refine kX6_171 X hJ (mX5_sumOverCarts l E B _ 0 6 (g38.1 0) (by omega) rfl ((hgn).1 0 (by omega))) rfl (lt_W0 (by omega)) (at_W (by omega) rfl) hl.1 ⟨Nat.le_of_ble_eq_true rfl, Nat.le_of_ble_eq_true rfl⟩ ⟨Nat.le_refl _, Nat.le_refl _⟩ (rest := [.int (sX5_sumOverCarts (g38.1 1) 6)]) rfl (Nat.le_of_ble_eq_true rfl) dX6_would_105 (fun H locs hJ => ?_)
          refine lv_isub hx hb dX6_would_108 ?_
          have hs : sX6_would g x y = ((sX5_sumOverCarts (g38.1 1) 6) - (sX5_sumOverCarts (g38.1 0) 6), g38) := hs.trans (by rw [bX6_would_38, if_pos c_41, if_neg c_61_0, if_pos c_61_1])
          exact fin (by rw [hs]; dsimp only; exact hJ) (by rw [hs]) dX6_would_109
        by_cases c_61_2 : y = 2
        · rw [c_61_2]
          refine lv_tableIn (tgt := 110) hx hb dX6_would_61 (by decide) (by decide) (off := 49) (by decide) (by decide) ?_
          refine lv_aload_n hx hb dX6_would_110 rfl (lv_at hl 0 rfl) ?_
          refine gX6_16 X hJ  dX6_would_111 ?_
          refine lv_bipush (v := 7) hx hb dX6_would_114 (by decide) ?_
          refine kX6_171 X hJ (mX5_sumOverCarts l E B _ 1 7 (g38.1 1) (by omega) rfl ((hgn).1 1 (by omega))) rfl (lt_W0 (by omega)) (at_W (by omega) rfl) hl.1 ⟨Nat.le_of_ble_eq_true rfl, Nat.le_of_ble_eq_true rfl⟩ ⟨Nat.le_refl _, Nat.le_refl _⟩ (rest := []) rfl (Nat.le_of_ble_eq_true rfl) dX6_would_116 (fun H locs hJ => ?_)
          refine lv_aload_n hx hb dX6_would_119 rfl (lv_at hl 0 rfl) ?_
          refine gX6_10 X hJ  dX6_would_120 ?_
          refine lv_bipush (v := 7) hx hb dX6_would_123 (by decide) ?_
          refine kX6_171 X hJ (mX5_sumOverCarts l E B _ 0 7 (g38.1 0) (by omega) rfl ((hgn).1 0 (by omega))) rfl (lt_W0 (by omega)) (at_W (by omega) rfl) hl.1 ⟨Nat.le_of_ble_eq_true rfl, Nat.le_of_ble_eq_true rfl⟩ ⟨Nat.le_refl _, Nat.le_refl _⟩ (rest := [.int (sX5_sumOverCarts (g38.1 1) 7)]) rfl (Nat.le_of_ble_eq_true rfl) dX6_would_125 (fun H locs hJ => ?_)
          refine lv_isub hx hb dX6_would_128 ?_
          have hs : sX6_would g x y = ((sX5_sumOverCarts (g38.1 1) 7) - (sX5_sumOverCarts (g38.1 0) 7), g38) := hs.trans (by rw [bX6_would_38, if_pos c_41, if_neg c_61_0, if_neg c_61_1, if_pos c_61_2])
          exact fin (by rw [hs]; dsimp only; exact hJ) (by rw [hs]) dX6_would_129
        refine rtabOut (tgt := 130) hx hb dX6_would_61 (by decide) (fun h1 h2 => ?_) ?_
        · exfalso; have e0 := ne_toInt (n := 0) c_61_0 (by decide); have e1 := ne_toInt (n := 1) c_61_1 (by decide); have e2 := ne_toInt (n := 2) c_61_2 (by decide); omega
        refine lv_aload_n hx hb dX6_would_130 rfl (lv_at hl 0 rfl) ?_
        refine gX6_16 X hJ  dX6_would_131 ?_
        refine kX6_174 X hJ (mX5_waitingSet l E B _ 1 (g38.1 1) (by omega) rfl ((hgn).1 1 (by omega))) rfl (lt_W0 (by omega)) (at_W (by omega) rfl) hl.1 ⟨Nat.le_of_ble_eq_true rfl, Nat.le_of_ble_eq_true rfl⟩ ⟨Nat.le_refl _, Nat.le_refl _⟩ (rest := []) rfl (Nat.le_of_ble_eq_true rfl) dX6_would_134 (fun H locs hJ => ?_)
        have hs : sX6_would g x y = (sX5_waitingSet (g38.1 1), g38) := hs.trans (by rw [bX6_would_38, if_pos c_41, if_neg c_61_0, if_neg c_61_1, if_neg c_61_2])
        exact fin (by rw [hs]; dsimp only; exact hJ) (by rw [hs]) dX6_would_137
      · skip
        have hp2 : p < 99 := by have := (not_congr (cnt_le (p := p) hxr (by omega))).mp c_41; have := hxr.le; omega
        refine lv_iload_n hx hb dX6_would_44 rfl (lv_at hl 3 rfl) ?_
        refine lv_aload_n hx hb dX6_would_45 rfl (lv_at hl 0 rfl) ?_
        refine gX6_16 X hJ  dX6_would_46 ?_
        refine kX6_154 X hJ (by have h := mX5_playHour l E B g38 1 (g38.1 1) (by omega) ((hgn).1 1 (by omega)); rw [upW_self] at h; exact h) rfl (lt_W0 (by omega)) (at_W (by omega) rfl) hl.1 ⟨Nat.le_of_ble_eq_true rfl, Nat.le_of_ble_eq_true rfl⟩ ⟨Nat.le_refl _, Nat.le_refl _⟩ (rest := [.int ov]) rfl (Nat.le_of_ble_eq_true rfl) dX6_would_49 (fun H locs hJ => ?_)
        refine lv_iadd hx hb dX6_would_52 ?_
        refine lv_istore_n (lv' := [(3, .int (ov + ((sX5_playHour (g38.1 1)).1))), (0, .ref (B + 0)), (1, .int x), (2, .int y), (4, .int (nI p))]) hx hb dX6_would_53 rfl hl (by decide) rfl (fun ls hl => ?_)
        refine lv_iinc (v := nI (p + 1)) (lv' := [(4, .int (nI (p + 1))), (3, .int (ov + ((sX5_playHour (g38.1 1)).1))), (0, .ref (B + 0)), (1, .int x), (2, .int y)]) hx hb dX6_would_54 hl (k := 4) rfl (by first | exact nI_add _ _ | rfl) (by decide) rfl (fun ls hl => ?_)
        refine lv_goto (tgt := 38) hx hb dX6_would_57 (by decide) ?_
        have hs : sX6_would g x y = bX6_would_38 x y n (upW g38 1 (sX5_playHour (g38.1 1)).2) (ov + ((sX5_playHour (g38.1 1)).1)) (p + 1) := hs.trans (by rw [bX6_would_38, if_neg c_41])
        exact ih (upW g38 1 (sX5_playHour (g38.1 1)).2) (ov + ((sX5_playHour (g38.1 1)).1)) (p + 1) (by omega) (Gn_upW (hgn) (Cn_playHour ((hgn).1 1 (by omega)))) (hxr) (by omega) _ _ _ hJ (lv_sub hl [2, 3, 4, 1, 0] rfl) hs
  refine lv_iload_n hx hb dX6_would_0 rfl (lv_at hl 1 rfl) ?_
  refine lv_iconst (v := 1) hx hb dX6_would_1 (by decide) ?_
  refine lv_icmp_lt (tgt := 19) hx hb dX6_would_2 (by decide) (fun c_2 => ?_) (fun c_2 => ?_)
  · skip
    refine lv_bipush (v := (-2)) hx hb dX6_would_19 (by decide) ?_
    have hs : sX6_would g x y = ((-2), g) := by unfold sX6_would; rw [if_pos c_2]
    exact fin (by rw [hs]; dsimp only; exact hJ) (by rw [hs]) dX6_would_21
  · skip
    refine lv_iload_n hx hb dX6_would_5 rfl (lv_at hl 1 rfl) ?_
    refine lv_bipush (v := 99) hx hb dX6_would_6 (by decide) ?_
    refine lv_icmp_gt (tgt := 19) hx hb dX6_would_8 (by decide) (fun c_8 => ?_) (fun c_8 => ?_)
    · skip
      refine lv_bipush (v := (-2)) hx hb dX6_would_19 (by decide) ?_
      have hs : sX6_would g x y = ((-2), g) := by unfold sX6_would; rw [if_neg c_2, if_pos c_8]
      exact fin (by rw [hs]; dsimp only; exact hJ) (by rw [hs]) dX6_would_21
    · skip
      refine lv_iload_n hx hb dX6_would_11 rfl (lv_at hl 2 rfl) ?_
      refine lv_iconst (v := 4) hx hb dX6_would_12 (by decide) ?_
      refine kX6_100 X hJ (mX6_isBelow l E B _ y 4) rfl hl.1 ⟨Nat.le_of_ble_eq_true rfl, Nat.le_of_ble_eq_true rfl⟩ ⟨Nat.le_refl _, Nat.le_refl _⟩ (rest := []) rfl (Nat.le_of_ble_eq_true rfl) dX6_would_13 (fun H locs hJ => ?_)
      refine lv_if_ne (tgt := 22) hx hb dX6_would_16 (by decide) (fun c_16 => ?_) (fun c_16 => ?_)
      · skip
        refine lv_aload_n hx hb dX6_would_22 rfl (lv_at hl 0 rfl) ?_
        refine gX6_16 X hJ  dX6_would_23 ?_
        refine lv_aload_n hx hb dX6_would_26 rfl (lv_at hl 0 rfl) ?_
        refine gX6_10 X hJ  dX6_would_27 ?_
        refine kX6_147 X hJ (nX5_copyFrom l E B g 1 0 (by omega) (by omega) (by omega)) rfl (lt_W0 (by omega)) (at_W (by omega) rfl) hl.1 ⟨Nat.le_of_ble_eq_true rfl, Nat.le_of_ble_eq_true rfl⟩ ⟨Nat.le_refl _, Nat.le_refl _⟩ (rest := []) rfl (Nat.le_of_ble_eq_true rfl) dX6_would_30 (fun H locs hJ => ?_)
        refine lv_iconst (v := 0) hx hb dX6_would_33 (by decide) ?_
        refine lv_istore_n (lv' := [(3, .int 0), (0, .ref (B + 0)), (1, .int x), (2, .int y)]) hx hb dX6_would_34 rfl hl (by decide) rfl (fun ls hl => ?_)
        refine lv_iconst (v := 0) hx hb dX6_would_35 (by decide) ?_
        refine lv_istore (lv' := [(4, .int 0), (3, .int 0), (0, .ref (B + 0)), (1, .int x), (2, .int y)]) hx hb dX6_would_36 hl (by decide) rfl (fun ls hl => ?_)
        have hs : sX6_would g x y = bX6_would_38 x y 100 (upW g 1 (g.1 0)) 0 0 := by unfold sX6_would; rw [if_neg c_2, if_neg c_8, if_neg c_16]
        exact bk_38 100 (upW g 1 (g.1 0)) 0 0 (by omega) (Gn_upW (hgn) ((hgn).1 0 (by omega))) (sm_rng (lo := 1) (hi := 99) c_2 (Int32.not_lt.mp c_8) (by omega) (by omega)) (by omega) _ _ _ hJ (lv_sub hl [2, 3, 4, 1, 0] rfl) hs
      · skip
        refine lv_bipush (v := (-2)) hx hb dX6_would_19 (by decide) ?_
        have hs : sX6_would g x y = ((-2), g) := by unfold sX6_would; rw [if_neg c_2, if_neg c_8, if_pos c_16]
        exact fin (by rw [hs]; dsimp only; exact hJ) (by rw [hs]) dX6_would_21

