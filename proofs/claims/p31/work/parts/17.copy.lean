def sX0_copyFrom (w w2 : Row) (i : Nat) : Row := upd (upd (upd (upd (upd (upd (upd (upd w (20 + 7 * i) (w2 (20 + 7 * i))) (20 + 7 * i + 1) (w2 (20 + 7 * i + 1))) (20 + 7 * i + 2) (w2 (20 + 7 * i + 2))) (20 + 7 * i + 3) (w2 (20 + 7 * i + 3))) (360 + i) (w2 (360 + i))) (20 + 7 * i + 4) (w2 (20 + 7 * i + 4))) (20 + 7 * i + 5) (w2 (20 + 7 * i + 5))) (20 + 7 * i + 6) (w2 (20 + 7 * i + 6))
set_option maxHeartbeats 4000000 in
set_option maxRecDepth 100000 in
theorem mX0_copyFrom (l : Launch) (E : EE) (B : Nat) (g : GS) (k k2 : Nat) (i : Nat) (w w2 : Row) (hk : k < 11) (hk2 : k2 < 11) (hne : ¬ k2 = k) (hi : i < 12) (hw2 : g.1 k2 = w2) : CG l yX0_copyFrom cX0_copyFrom 2 none 0 0 E B [.ref (B + (wo k + (5 + i))), .ref (B + (wo k2 + (5 + i)))] (upW g k w) none (upW g k (sX0_copyFrom w w2 i)) := by
  refine mkV (own := RX0) rfl (by decide) rfl (Nat.le_of_ble_eq_true rfl) (fun P_ e_ s_ m_ a_ below meth cd Q X _ fin ls hl hJ => ?_)
  have hx := X.1
  have hb := X.2.1
  have hl : lv_has ls 2 [(0, .ref (B + (wo k + (5 + i)))), (1, .ref (B + (wo k2 + (5 + i))))] := hl
  refine lv_aload_n hx hb dX0_copyFrom_0 rfl (lv_at hl 0 rfl) ?_
  refine lv_aload_n hx hb dX0_copyFrom_1 rfl (lv_at hl 1 rfl) ?_
  refine gX0_15 X hJ (k := k2) (w := w2) (by omega) (i := i) (by omega)  ((upW_ne hne).trans hw2) dX0_copyFrom_2 ?_
  refine pX0_15 X hJ (k := k) (by omega) (i := i) (by omega) dX0_copyFrom_5 (fun H locs hJ => ?_)
  refine lv_aload_n hx hb dX0_copyFrom_8 rfl (lv_at hl 0 rfl) ?_
  refine lv_aload_n hx hb dX0_copyFrom_9 rfl (lv_at hl 1 rfl) ?_
  refine gX0_18 X hJ (k := k2) (w := w2) (by omega) (i := i) (by omega)  ((upW_ne hne).trans hw2) dX0_copyFrom_10 ?_
  refine pX0_18 X hJ (k := k) (by omega) (i := i) (by omega) dX0_copyFrom_13 (fun H locs hJ => ?_)
  refine lv_aload_n hx hb dX0_copyFrom_16 rfl (lv_at hl 0 rfl) ?_
  refine lv_aload_n hx hb dX0_copyFrom_17 rfl (lv_at hl 1 rfl) ?_
  refine gX0_21 X hJ (k := k2) (w := w2) (by omega) (i := i) (by omega)  ((upW_ne hne).trans hw2) dX0_copyFrom_18 ?_
  refine pX0_21 X hJ (k := k) (by omega) (i := i) (by omega) dX0_copyFrom_21 (fun H locs hJ => ?_)
  refine lv_aload_n hx hb dX0_copyFrom_24 rfl (lv_at hl 0 rfl) ?_
  refine lv_aload_n hx hb dX0_copyFrom_25 rfl (lv_at hl 1 rfl) ?_
  refine gX0_24 X hJ (k := k2) (w := w2) (by omega) (i := i) (by omega)  ((upW_ne hne).trans hw2) dX0_copyFrom_26 ?_
  refine pX0_24 X hJ (k := k) (by omega) (i := i) (by omega) dX0_copyFrom_29 (fun H locs hJ => ?_)
  refine lv_aload_n hx hb dX0_copyFrom_32 rfl (lv_at hl 0 rfl) ?_
  refine lv_aload_n hx hb dX0_copyFrom_33 rfl (lv_at hl 1 rfl) ?_
  refine gX0_27 X hJ (k := k2) (w := w2) (by omega) (i := i) (by omega)  ((upW_ne hne).trans hw2) dX0_copyFrom_34 ?_
  refine pX0_27 X hJ (k := k) (by omega) (i := i) (by omega) dX0_copyFrom_37 (fun H locs hJ => ?_)
  refine lv_aload_n hx hb dX0_copyFrom_40 rfl (lv_at hl 0 rfl) ?_
  refine lv_aload_n hx hb dX0_copyFrom_41 rfl (lv_at hl 1 rfl) ?_
  refine gX0_30 X hJ (k := k2) (w := w2) (by omega) (i := i) (by omega)  ((upW_ne hne).trans hw2) dX0_copyFrom_42 ?_
  refine pX0_30 X hJ (k := k) (by omega) (i := i) (by omega) dX0_copyFrom_45 (fun H locs hJ => ?_)
  refine lv_aload_n hx hb dX0_copyFrom_48 rfl (lv_at hl 0 rfl) ?_
  refine lv_aload_n hx hb dX0_copyFrom_49 rfl (lv_at hl 1 rfl) ?_
  refine gX0_33 X hJ (k := k2) (w := w2) (by omega) (i := i) (by omega)  ((upW_ne hne).trans hw2) dX0_copyFrom_50 ?_
  refine pX0_33 X hJ (k := k) (by omega) (i := i) (by omega) dX0_copyFrom_53 (fun H locs hJ => ?_)
  refine lv_aload_n hx hb dX0_copyFrom_56 rfl (lv_at hl 0 rfl) ?_
  refine lv_aload_n hx hb dX0_copyFrom_57 rfl (lv_at hl 1 rfl) ?_
  refine gX0_36 X hJ (k := k2) (w := w2) (by omega) (i := i) (by omega)  ((upW_ne hne).trans hw2) dX0_copyFrom_58 ?_
  refine pX0_36 X hJ (k := k) (by omega) (i := i) (by omega) dX0_copyFrom_61 (fun H locs hJ => ?_)
  have hs : sX0_copyFrom w w2 i = upd (upd (upd (upd (upd (upd (upd (upd w (20 + 7 * i) (w2 (20 + 7 * i))) (20 + 7 * i + 1) (w2 (20 + 7 * i + 1))) (20 + 7 * i + 2) (w2 (20 + 7 * i + 2))) (20 + 7 * i + 3) (w2 (20 + 7 * i + 3))) (360 + i) (w2 (360 + i))) (20 + 7 * i + 4) (w2 (20 + 7 * i + 4))) (20 + 7 * i + 5) (w2 (20 + 7 * i + 5))) (20 + 7 * i + 6) (w2 (20 + 7 * i + 6)) := by unfold sX0_copyFrom; rfl
  exact fin (by rw [hs]; exact hJ) dX0_copyFrom_64

def sX1_copyFrom (w w2 : Row) (i : Nat) : Row := cpw (cpw (upd (upd (upd (upd (upd (upd (upd (upd w (104 + 8 * i) (w2 (104 + 8 * i))) (104 + 8 * i + 1) (w2 (104 + 8 * i + 1))) (104 + 8 * i + 2) (w2 (104 + 8 * i + 2))) (104 + 8 * i + 3) (w2 (104 + 8 * i + 3))) (104 + 8 * i + 4) (w2 (104 + 8 * i + 4))) (104 + 8 * i + 5) (w2 (104 + 8 * i + 5))) (104 + 8 * i + 6) (w2 (104 + 8 * i + 6))) (104 + 8 * i + 7) (w2 (104 + 8 * i + 7))) w2 (18 + 3 * i)) w2 (19 + 3 * i)
set_option maxHeartbeats 4000000 in
set_option maxRecDepth 100000 in
theorem mX1_copyFrom (l : Launch) (E : EE) (B : Nat) (g : GS) (k k2 : Nat) (i : Nat) (w w2 : Row) (hk : k < 11) (hk2 : k2 < 11) (hne : ¬ k2 = k) (hi : i < 8) (hw2 : g.1 k2 = w2) : CG l yX1_copyFrom cX1_copyFrom 2 none 1 40 E B [.ref (B + (wo k + (17 + 3 * i))), .ref (B + (wo k2 + (17 + 3 * i)))] (upW g k w) none (upW g k (sX1_copyFrom w w2 i)) := by
  refine mkV (own := RX1) rfl (by decide) rfl (Nat.le_of_ble_eq_true rfl) (fun P_ e_ s_ m_ a_ below meth cd Q X _ fin ls hl hJ => ?_)
  have hx := X.1
  have hb := X.2.1
  have hl : lv_has ls 2 [(0, .ref (B + (wo k + (17 + 3 * i)))), (1, .ref (B + (wo k2 + (17 + 3 * i))))] := hl
  refine lv_aload_n hx hb dX1_copyFrom_0 rfl (lv_at hl 0 rfl) ?_
  refine lv_aload_n hx hb dX1_copyFrom_1 rfl (lv_at hl 1 rfl) ?_
  refine gX1_28 X hJ (k := k2) (w := w2) (by omega) (i := i) (by omega)  ((upW_ne hne).trans hw2) dX1_copyFrom_2 ?_
  refine pX1_28 X hJ (k := k) (by omega) (i := i) (by omega) dX1_copyFrom_5 (fun H locs hJ => ?_)
  refine lv_aload_n hx hb dX1_copyFrom_8 rfl (lv_at hl 0 rfl) ?_
  refine lv_aload_n hx hb dX1_copyFrom_9 rfl (lv_at hl 1 rfl) ?_
  refine gX1_31 X hJ (k := k2) (w := w2) (by omega) (i := i) (by omega)  ((upW_ne hne).trans hw2) dX1_copyFrom_10 ?_
  refine pX1_31 X hJ (k := k) (by omega) (i := i) (by omega) dX1_copyFrom_13 (fun H locs hJ => ?_)
  refine lv_aload_n hx hb dX1_copyFrom_16 rfl (lv_at hl 0 rfl) ?_
  refine lv_aload_n hx hb dX1_copyFrom_17 rfl (lv_at hl 1 rfl) ?_
  refine gX1_9 X hJ (k := k2) (w := w2) (by omega) (i := i) (by omega)  ((upW_ne hne).trans hw2) dX1_copyFrom_18 ?_
  refine pX1_9 X hJ (k := k) (by omega) (i := i) (by omega) dX1_copyFrom_21 (fun H locs hJ => ?_)
  refine lv_aload_n hx hb dX1_copyFrom_24 rfl (lv_at hl 0 rfl) ?_
  refine lv_aload_n hx hb dX1_copyFrom_25 rfl (lv_at hl 1 rfl) ?_
  refine gX1_15 X hJ (k := k2) (w := w2) (by omega) (i := i) (by omega)  ((upW_ne hne).trans hw2) dX1_copyFrom_26 ?_
  refine pX1_15 X hJ (k := k) (by omega) (i := i) (by omega) dX1_copyFrom_29 (fun H locs hJ => ?_)
  refine lv_aload_n hx hb dX1_copyFrom_32 rfl (lv_at hl 0 rfl) ?_
  refine lv_aload_n hx hb dX1_copyFrom_33 rfl (lv_at hl 1 rfl) ?_
  refine gX1_34 X hJ (k := k2) (w := w2) (by omega) (i := i) (by omega)  ((upW_ne hne).trans hw2) dX1_copyFrom_34 ?_
  refine pX1_34 X hJ (k := k) (by omega) (i := i) (by omega) dX1_copyFrom_37 (fun H locs hJ => ?_)
  refine lv_aload_n hx hb dX1_copyFrom_40 rfl (lv_at hl 0 rfl) ?_
  refine lv_aload_n hx hb dX1_copyFrom_41 rfl (lv_at hl 1 rfl) ?_
  refine gX1_37 X hJ (k := k2) (w := w2) (by omega) (i := i) (by omega)  ((upW_ne hne).trans hw2) dX1_copyFrom_42 ?_
  refine pX1_37 X hJ (k := k) (by omega) (i := i) (by omega) dX1_copyFrom_45 (fun H locs hJ => ?_)
  refine lv_aload_n hx hb dX1_copyFrom_48 rfl (lv_at hl 0 rfl) ?_
  refine lv_aload_n hx hb dX1_copyFrom_49 rfl (lv_at hl 1 rfl) ?_
  refine gX1_40 X hJ (k := k2) (w := w2) (by omega) (i := i) (by omega)  ((upW_ne hne).trans hw2) dX1_copyFrom_50 ?_
  refine pX1_40 X hJ (k := k) (by omega) (i := i) (by omega) dX1_copyFrom_53 (fun H locs hJ => ?_)
  refine lv_aload_n hx hb dX1_copyFrom_56 rfl (lv_at hl 0 rfl) ?_
  refine lv_aload_n hx hb dX1_copyFrom_57 rfl (lv_at hl 1 rfl) ?_
  refine gX1_43 X hJ (k := k2) (w := w2) (by omega) (i := i) (by omega)  ((upW_ne hne).trans hw2) dX1_copyFrom_58 ?_
  refine pX1_43 X hJ (k := k) (by omega) (i := i) (by omega) dX1_copyFrom_61 (fun H locs hJ => ?_)
  refine lv_aload_n hx hb dX1_copyFrom_64 rfl (lv_at hl 1 rfl) ?_
  refine gX1_18 X hJ (k := k2) (w := w2) (by omega) (i := i) (by omega)  ((upW_ne hne).trans hw2) dX1_copyFrom_65 ?_
  refine lv_iconst (v := 0) hx hb dX1_copyFrom_68 (by decide) ?_
  refine lv_aload_n hx hb dX1_copyFrom_69 rfl (lv_at hl 0 rfl) ?_
  refine gX1_18 X hJ (k := k) (w := upd (upd (upd (upd (upd (upd (upd (upd w (104 + 8 * i) (w2 (104 + 8 * i))) (104 + 8 * i + 1) (w2 (104 + 8 * i + 1))) (104 + 8 * i + 2) (w2 (104 + 8 * i + 2))) (104 + 8 * i + 3) (w2 (104 + 8 * i + 3))) (104 + 8 * i + 4) (w2 (104 + 8 * i + 4))) (104 + 8 * i + 5) (w2 (104 + 8 * i + 5))) (104 + 8 * i + 6) (w2 (104 + 8 * i + 6))) (104 + 8 * i + 7) (w2 (104 + 8 * i + 7))) (by omega) (i := i) (by omega)  upW_1 dX1_copyFrom_70 ?_
  refine lv_iconst (v := 0) hx hb dX1_copyFrom_73 (by decide) ?_
  refine lv_bipush (v := 12) hx hb dX1_copyFrom_74 (by decide) ?_
  refine cp_row X hJ hl.1 tl_X1_46 (by omega) (by omega) ((upW_ne hne).trans hw2) (r := 18 + 3 * i) (by omega) (K := 12) (by decide) (by decide) (by decide) (pw_lo (by omega)) (pw_lo (by omega)) (pw_lo (by omega)) ⟨Nat.le_of_ble_eq_true rfl, Nat.le_of_ble_eq_true rfl⟩ dX1_copyFrom_76 (fun H locs hJ => ?_)
  refine lv_aload_n hx hb dX1_copyFrom_79 rfl (lv_at hl 1 rfl) ?_
  refine gX1_22 X hJ (k := k2) (w := w2) (by omega) (i := i) (by omega)  ((upW_ne hne).trans hw2) dX1_copyFrom_80 ?_
  refine lv_iconst (v := 0) hx hb dX1_copyFrom_83 (by decide) ?_
  refine lv_aload_n hx hb dX1_copyFrom_84 rfl (lv_at hl 0 rfl) ?_
  refine gX1_22 X hJ (k := k) (w := cpw (upd (upd (upd (upd (upd (upd (upd (upd w (104 + 8 * i) (w2 (104 + 8 * i))) (104 + 8 * i + 1) (w2 (104 + 8 * i + 1))) (104 + 8 * i + 2) (w2 (104 + 8 * i + 2))) (104 + 8 * i + 3) (w2 (104 + 8 * i + 3))) (104 + 8 * i + 4) (w2 (104 + 8 * i + 4))) (104 + 8 * i + 5) (w2 (104 + 8 * i + 5))) (104 + 8 * i + 6) (w2 (104 + 8 * i + 6))) (104 + 8 * i + 7) (w2 (104 + 8 * i + 7))) w2 (18 + 3 * i)) (by omega) (i := i) (by omega)  upW_1 dX1_copyFrom_85 ?_
  refine lv_iconst (v := 0) hx hb dX1_copyFrom_88 (by decide) ?_
  refine lv_bipush (v := 12) hx hb dX1_copyFrom_89 (by decide) ?_
  refine cp_row X hJ hl.1 tl_X1_46 (by omega) (by omega) ((upW_ne hne).trans hw2) (r := 19 + 3 * i) (by omega) (K := 12) (by decide) (by decide) (by decide) (pw_hi (by omega)) (pw_hi (by omega)) (pw_hi (by omega)) ⟨Nat.le_of_ble_eq_true rfl, Nat.le_of_ble_eq_true rfl⟩ dX1_copyFrom_91 (fun H locs hJ => ?_)
  have hs : sX1_copyFrom w w2 i = cpw (cpw (upd (upd (upd (upd (upd (upd (upd (upd w (104 + 8 * i) (w2 (104 + 8 * i))) (104 + 8 * i + 1) (w2 (104 + 8 * i + 1))) (104 + 8 * i + 2) (w2 (104 + 8 * i + 2))) (104 + 8 * i + 3) (w2 (104 + 8 * i + 3))) (104 + 8 * i + 4) (w2 (104 + 8 * i + 4))) (104 + 8 * i + 5) (w2 (104 + 8 * i + 5))) (104 + 8 * i + 6) (w2 (104 + 8 * i + 6))) (104 + 8 * i + 7) (w2 (104 + 8 * i + 7))) w2 (18 + 3 * i)) w2 (19 + 3 * i) := by unfold sX1_copyFrom; rfl
  exact fin (by rw [hs]; exact hJ) dX1_copyFrom_94

def bX5_copyFrom_60 (w2 : Row) : Nat → Row → Nat → Row
  | 0, w60, _ => w60
  | n + 1, w60, p => if 8 ≤ nI p then (upd (upd (upd (upd (upd (upd (upd w60 (10) (w2 10)) (5) (w2 5)) (6) (w2 6)) (7) (w2 7)) (4) (w2 4)) (8) (w2 8)) (9) (w2 9)) else (bX5_copyFrom_60 w2 n (sX1_copyFrom w60 w2 p) (p + 1))
def bX5_copyFrom_31 (w2 : Row) : Nat → Row → Nat → Row
  | 0, w31, _ => w31
  | n + 1, w31, p => if 12 ≤ nI p then (bX5_copyFrom_60 w2 9 w31 0) else (bX5_copyFrom_31 w2 n (sX0_copyFrom w31 w2 p) (p + 1))
def sX5_copyFrom (w w2 : Row) : Row := bX5_copyFrom_31 w2 13 (cpw (cpw w w2 (1)) w2 (4)) 0
set_option maxHeartbeats 4000000 in
set_option maxRecDepth 100000 in
theorem mX5_copyFrom (l : Launch) (E : EE) (B : Nat) (g : GS) (k k2 : Nat) (w w2 : Row) (hk : k < 11) (hk2 : k2 < 11) (hne : ¬ k2 = k) (hw2 : g.1 k2 = w2) : CG l yX5_copyFrom cX5_copyFrom 3 none 2 61 E B [.ref (B + wo k), .ref (B + wo k2)] (upW g k w) none (upW g k (sX5_copyFrom w w2)) := by
  refine mkV (own := RX5) rfl (by decide) rfl (Nat.le_of_ble_eq_true rfl) (fun P_ e_ s_ m_ a_ below meth cd Q X _ fin ls hl hJ => ?_)
  have hx := X.1
  have hb := X.2.1
  have hl : lv_has ls 3 [(0, .ref (B + wo k)), (1, .ref (B + wo k2))] := hl
  have bk_60 : ∀ (n : Nat) (w60 : Row)  (p : Nat), 8 - p < n → (p ≤ 8) → ∀ (H : Heap) (locs : List Loc) (ls : Array Slot), JG E B s_ (upW g k w60) H locs → lv_has ls 3 [(0, .ref (B + wo k)), (1, .ref (B + wo k2)), (2, .int (nI p))] → sX5_copyFrom w w2 = bX5_copyFrom_60 w2 n w60 p → W P_ l e_ (rmm 2 61 0 0) s_ m_ a_ below meth cd H locs 0 0 Q (F0 m_ 60 ls []) := by
    intro n
    induction n with
    | zero => intro w60 p hm; exact absurd hm (Nat.not_lt_zero _)
    | succ n ih =>
      intro w60 p hm hp H locs ls hJ hl hs
      refine lv_iload_n hx hb dX5_copyFrom_60 rfl (lv_at hl 2 rfl) ?_
      refine lv_bipush (v := 8) hx hb dX5_copyFrom_61 (by decide) ?_
      refine lv_icmp_ge (tgt := 87) hx hb dX5_copyFrom_63 (by decide) (fun c_63 => ?_) (fun c_63 => ?_)
      · skip
        refine lv_aload_n hx hb dX5_copyFrom_87 rfl (lv_at hl 0 rfl) ?_
        refine lv_aload_n hx hb dX5_copyFrom_88 rfl (lv_at hl 1 rfl) ?_
        refine gX5_54 X hJ (k := k2) (w := w2) (by omega) ((upW_ne hne).trans hw2) dX5_copyFrom_89 ?_
        refine pX5_54 X hJ (k := k) (by omega) dX5_copyFrom_92 (fun H locs hJ => ?_)
        refine lv_aload_n hx hb dX5_copyFrom_95 rfl (lv_at hl 0 rfl) ?_
        refine lv_aload_n hx hb dX5_copyFrom_96 rfl (lv_at hl 1 rfl) ?_
        refine gX5_57 X hJ (k := k2) (w := w2) (by omega) ((upW_ne hne).trans hw2) dX5_copyFrom_97 ?_
        refine pX5_57 X hJ (k := k) (by omega) dX5_copyFrom_100 (fun H locs hJ => ?_)
        refine lv_aload_n hx hb dX5_copyFrom_103 rfl (lv_at hl 0 rfl) ?_
        refine lv_aload_n hx hb dX5_copyFrom_104 rfl (lv_at hl 1 rfl) ?_
        refine gX5_60 X hJ (k := k2) (w := w2) (by omega) ((upW_ne hne).trans hw2) dX5_copyFrom_105 ?_
        refine pX5_60 X hJ (k := k) (by omega) dX5_copyFrom_108 (fun H locs hJ => ?_)
        refine lv_aload_n hx hb dX5_copyFrom_111 rfl (lv_at hl 0 rfl) ?_
        refine lv_aload_n hx hb dX5_copyFrom_112 rfl (lv_at hl 1 rfl) ?_
        refine gX5_30 X hJ (k := k2) (w := w2) (by omega) ((upW_ne hne).trans hw2) dX5_copyFrom_113 ?_
        refine pX5_30 X hJ (k := k) (by omega) dX5_copyFrom_116 (fun H locs hJ => ?_)
        refine lv_aload_n hx hb dX5_copyFrom_119 rfl (lv_at hl 0 rfl) ?_
        refine lv_aload_n hx hb dX5_copyFrom_120 rfl (lv_at hl 1 rfl) ?_
        refine gX5_63 X hJ (k := k2) (w := w2) (by omega) ((upW_ne hne).trans hw2) dX5_copyFrom_121 ?_
        refine pX5_63 X hJ (k := k) (by omega) dX5_copyFrom_124 (fun H locs hJ => ?_)
        refine lv_aload_n hx hb dX5_copyFrom_127 rfl (lv_at hl 0 rfl) ?_
        refine lv_aload_n hx hb dX5_copyFrom_128 rfl (lv_at hl 1 rfl) ?_
        refine gX5_66 X hJ (k := k2) (w := w2) (by omega) ((upW_ne hne).trans hw2) dX5_copyFrom_129 ?_
        refine pX5_66 X hJ (k := k) (by omega) dX5_copyFrom_132 (fun H locs hJ => ?_)
        refine lv_aload_n hx hb dX5_copyFrom_135 rfl (lv_at hl 0 rfl) ?_
        refine lv_aload_n hx hb dX5_copyFrom_136 rfl (lv_at hl 1 rfl) ?_
        refine gX5_69 X hJ (k := k2) (w := w2) (by omega) ((upW_ne hne).trans hw2) dX5_copyFrom_137 ?_
        refine pX5_69 X hJ (k := k) (by omega) dX5_copyFrom_140 (fun H locs hJ => ?_)
        have hs : sX5_copyFrom w w2 = upd (upd (upd (upd (upd (upd (upd w60 (10) (w2 10)) (5) (w2 5)) (6) (w2 6)) (7) (w2 7)) (4) (w2 4)) (8) (w2 8)) (9) (w2 9) := hs.trans (by rw [bX5_copyFrom_60, if_pos c_63])
        exact fin (by rw [hs]; exact hJ) dX5_copyFrom_143
      · skip
        have hp2 := lit_lt (n := 8) c_63 (by omega) (by omega)
        refine lv_aload_n hx hb dX5_copyFrom_66 rfl (lv_at hl 0 rfl) ?_
        refine gX5_23 X hJ (k := k) (w := w60) (by omega) upW_1 dX5_copyFrom_67 ?_
        refine lv_iload_n hx hb dX5_copyFrom_70 rfl (lv_at hl 2 rfl) ?_
        refine ld_cts X hJ (k := k) (by omega) (j := p) (rfl) (by omega) dX5_copyFrom_71 ?_
        refine lv_aload_n hx hb dX5_copyFrom_72 rfl (lv_at hl 1 rfl) ?_
        refine gX5_23 X hJ (k := k2) (w := w2) (by omega) ((upW_ne hne).trans hw2) dX5_copyFrom_73 ?_
        refine lv_iload_n hx hb dX5_copyFrom_76 rfl (lv_at hl 2 rfl) ?_
        refine ld_cts X hJ (k := k2) (by omega) (j := p) (rfl) (by omega) dX5_copyFrom_77 ?_
        refine kX5_51 X hJ (mX1_copyFrom l E B _ k k2 p w60 w2 (by omega) (by omega) hne (by omega) hw2) rfl (lt_W (by omega) (by omega)) (at_C (by omega) (by omega) upW_1) hl.1 ⟨Nat.le_of_ble_eq_true rfl, Nat.le_of_ble_eq_true rfl⟩ ⟨Nat.le_refl _, Nat.le_refl _⟩ (rest := []) rfl (Nat.le_of_ble_eq_true rfl) dX5_copyFrom_78 (fun H locs hJ => ?_)
        refine lv_iinc (v := nI (p + 1)) (lv' := [(2, .int (nI (p + 1))), (0, .ref (B + wo k)), (1, .ref (B + wo k2))]) hx hb dX5_copyFrom_81 hl (k := 2) rfl (by first | exact nI_add _ _ | rfl) (by decide) rfl (fun ls hl => ?_)
        refine lv_goto (tgt := 60) hx hb dX5_copyFrom_84 (by decide) ?_
        have hs : sX5_copyFrom w w2 = bX5_copyFrom_60 w2 n (sX1_copyFrom w60 w2 p) (p + 1) := hs.trans (by rw [bX5_copyFrom_60, if_neg c_63])
        exact ih (sX1_copyFrom w60 w2 p) (p + 1) (by omega) (by omega) _ _ _ hJ (lv_sub hl [1, 2, 0] rfl) hs
  have bk_31 : ∀ (n : Nat) (w31 : Row)  (p : Nat), 12 - p < n → (p ≤ 12) → ∀ (H : Heap) (locs : List Loc) (ls : Array Slot), JG E B s_ (upW g k w31) H locs → lv_has ls 3 [(0, .ref (B + wo k)), (1, .ref (B + wo k2)), (2, .int (nI p))] → sX5_copyFrom w w2 = bX5_copyFrom_31 w2 n w31 p → W P_ l e_ (rmm 2 61 0 0) s_ m_ a_ below meth cd H locs 0 0 Q (F0 m_ 31 ls []) := by
    intro n
    induction n with
    | zero => intro w31 p hm; exact absurd hm (Nat.not_lt_zero _)
    | succ n ih =>
      intro w31 p hm hp H locs ls hJ hl hs
      refine lv_iload_n hx hb dX5_copyFrom_31 rfl (lv_at hl 2 rfl) ?_
      refine lv_bipush (v := 12) hx hb dX5_copyFrom_32 (by decide) ?_
      refine lv_icmp_ge (tgt := 58) hx hb dX5_copyFrom_34 (by decide) (fun c_34 => ?_) (fun c_34 => ?_)
      · skip
        refine lv_iconst (v := 0) hx hb dX5_copyFrom_58 (by decide) ?_
        refine lv_istore_n (lv' := [(2, .int 0), (0, .ref (B + wo k)), (1, .ref (B + wo k2))]) hx hb dX5_copyFrom_59 rfl hl (by decide) rfl (fun ls hl => ?_)
        have hs : sX5_copyFrom w w2 = bX5_copyFrom_60 w2 9 w31 0 := hs.trans (by rw [bX5_copyFrom_31, if_pos c_34])
        exact bk_60 9 w31 0 (by omega) (by omega) _ _ _ hJ (lv_sub hl [1, 2, 0] rfl) hs
      · skip
        have hp2 := lit_lt (n := 12) c_34 (by omega) (by omega)
        refine lv_aload_n hx hb dX5_copyFrom_37 rfl (lv_at hl 0 rfl) ?_
        refine gX5_17 X hJ (k := k) (w := w31) (by omega) upW_1 dX5_copyFrom_38 ?_
        refine lv_iload_n hx hb dX5_copyFrom_41 rfl (lv_at hl 2 rfl) ?_
        refine ld_brs X hJ (k := k) (by omega) (j := p) (rfl) (by omega) dX5_copyFrom_42 ?_
        refine lv_aload_n hx hb dX5_copyFrom_43 rfl (lv_at hl 1 rfl) ?_
        refine gX5_17 X hJ (k := k2) (w := w2) (by omega) ((upW_ne hne).trans hw2) dX5_copyFrom_44 ?_
        refine lv_iload_n hx hb dX5_copyFrom_47 rfl (lv_at hl 2 rfl) ?_
        refine ld_brs X hJ (k := k2) (by omega) (j := p) (rfl) (by omega) dX5_copyFrom_48 ?_
        refine kX5_47 X hJ (mX0_copyFrom l E B _ k k2 p w31 w2 (by omega) (by omega) hne (by omega) hw2) rfl (lt_W (by omega) (by omega)) (at_B (by omega) (by omega) upW_1) hl.1 ⟨Nat.le_of_ble_eq_true rfl, Nat.le_of_ble_eq_true rfl⟩ ⟨Nat.le_refl _, Nat.le_refl _⟩ (rest := []) rfl (Nat.le_of_ble_eq_true rfl) dX5_copyFrom_49 (fun H locs hJ => ?_)
        refine lv_iinc (v := nI (p + 1)) (lv' := [(2, .int (nI (p + 1))), (0, .ref (B + wo k)), (1, .ref (B + wo k2))]) hx hb dX5_copyFrom_52 hl (k := 2) rfl (by first | exact nI_add _ _ | rfl) (by decide) rfl (fun ls hl => ?_)
        refine lv_goto (tgt := 31) hx hb dX5_copyFrom_55 (by decide) ?_
        have hs : sX5_copyFrom w w2 = bX5_copyFrom_31 w2 n (sX0_copyFrom w31 w2 p) (p + 1) := hs.trans (by rw [bX5_copyFrom_31, if_neg c_34])
        exact ih (sX0_copyFrom w31 w2 p) (p + 1) (by omega) (by omega) _ _ _ hJ (lv_sub hl [1, 2, 0] rfl) hs
  refine lv_aload_n hx hb dX5_copyFrom_0 rfl (lv_at hl 1 rfl) ?_
  refine gX5_9 X hJ (k := k2) (w := w2) (by omega) ((upW_ne hne).trans hw2) dX5_copyFrom_1 ?_
  refine lv_iconst (v := 0) hx hb dX5_copyFrom_4 (by decide) ?_
  refine lv_aload_n hx hb dX5_copyFrom_5 rfl (lv_at hl 0 rfl) ?_
  refine gX5_9 X hJ (k := k) (w := w) (by omega) upW_1 dX5_copyFrom_6 ?_
  refine lv_iconst (v := 0) hx hb dX5_copyFrom_9 (by decide) ?_
  refine lv_iconst (v := 4) hx hb dX5_copyFrom_10 (by decide) ?_
  refine cp_row X hJ hl.1 tl_X5_37 (by omega) (by omega) ((upW_ne hne).trans hw2) (r := 1) (by omega) (K := 4) (by decide) (by decide) (by decide) rfl rfl rfl ⟨Nat.le_of_ble_eq_true rfl, Nat.le_of_ble_eq_true rfl⟩ dX5_copyFrom_11 (fun H locs hJ => ?_)
  refine lv_aload_n hx hb dX5_copyFrom_14 rfl (lv_at hl 1 rfl) ?_
  refine gX5_27 X hJ (k := k2) (w := w2) (by omega) ((upW_ne hne).trans hw2) dX5_copyFrom_15 ?_
  refine lv_iconst (v := 0) hx hb dX5_copyFrom_18 (by decide) ?_
  refine lv_aload_n hx hb dX5_copyFrom_19 rfl (lv_at hl 0 rfl) ?_
  refine gX5_27 X hJ (k := k) (w := cpw w w2 (1)) (by omega) upW_1 dX5_copyFrom_20 ?_
  refine lv_iconst (v := 0) hx hb dX5_copyFrom_23 (by decide) ?_
  refine lv_bipush (v := 8) hx hb dX5_copyFrom_24 (by decide) ?_
  refine cp_row X hJ hl.1 tl_X5_37 (by omega) (by omega) ((upW_ne hne).trans hw2) (r := 4) (by omega) (K := 8) (by decide) (by decide) (by decide) rfl rfl rfl ⟨Nat.le_of_ble_eq_true rfl, Nat.le_of_ble_eq_true rfl⟩ dX5_copyFrom_26 (fun H locs hJ => ?_)
  refine lv_iconst (v := 0) hx hb dX5_copyFrom_29 (by decide) ?_
  refine lv_istore_n (lv' := [(2, .int 0), (0, .ref (B + wo k)), (1, .ref (B + wo k2))]) hx hb dX5_copyFrom_30 rfl hl (by decide) rfl (fun ls hl => ?_)
  have hs : sX5_copyFrom w w2 = bX5_copyFrom_31 w2 13 (cpw (cpw w w2 (1)) w2 (4)) 0 := by unfold sX5_copyFrom; rfl
  exact bk_31 13 (cpw (cpw w w2 (1)) w2 (4)) 0 (by omega) (by omega) _ _ _ hJ (lv_sub hl [1, 2, 0] rfl) hs

