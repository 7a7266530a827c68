def bX7_measures_41  (w : Row)(x : Int32) : Nat → Row → Nat → Nat → Row
  | 0, w41, _, _ => w41
  | n + 1, w41, p, q => if w (5) ≤ nI q then (if 8 ≤ nI (p + 1) then (w41) else (bX7_measures_41 w x n w41 (p + 1) 0)) else (if w41 (200 + (nn (w (20 + 7 * q)))) ≤ (w41 (200 + (nn (w (20 + 7 * q + 1))))) + 1 then (if (upd w41 (200 + (nn (w (20 + 7 * q)))) (w41 (200 + (nn (w (20 + 7 * q)))))) (200 + (nn (w (20 + 7 * q + 1)))) ≤ ((upd w41 (200 + (nn (w (20 + 7 * q)))) (w41 (200 + (nn (w (20 + 7 * q)))))) (200 + (nn (w (20 + 7 * q))))) + 1 then (bX7_measures_41 w x n (upd (upd w41 (200 + (nn (w (20 + 7 * q)))) (w41 (200 + (nn (w (20 + 7 * q)))))) (200 + (nn (w (20 + 7 * q + 1)))) ((upd w41 (200 + (nn (w (20 + 7 * q)))) (w41 (200 + (nn (w (20 + 7 * q)))))) (200 + (nn (w (20 + 7 * q + 1)))))) p (q + 1)) else (bX7_measures_41 w x n (upd (upd w41 (200 + (nn (w (20 + 7 * q)))) (w41 (200 + (nn (w (20 + 7 * q)))))) (200 + (nn (w (20 + 7 * q + 1)))) (((upd w41 (200 + (nn (w (20 + 7 * q)))) (w41 (200 + (nn (w (20 + 7 * q)))))) (200 + (nn (w (20 + 7 * q))))) + 1)) p (q + 1))) else (if (upd w41 (200 + (nn (w (20 + 7 * q)))) ((w41 (200 + (nn (w (20 + 7 * q + 1))))) + 1)) (200 + (nn (w (20 + 7 * q + 1)))) ≤ ((upd w41 (200 + (nn (w (20 + 7 * q)))) ((w41 (200 + (nn (w (20 + 7 * q + 1))))) + 1)) (200 + (nn (w (20 + 7 * q))))) + 1 then (bX7_measures_41 w x n (upd (upd w41 (200 + (nn (w (20 + 7 * q)))) ((w41 (200 + (nn (w (20 + 7 * q + 1))))) + 1)) (200 + (nn (w (20 + 7 * q + 1)))) ((upd w41 (200 + (nn (w (20 + 7 * q)))) ((w41 (200 + (nn (w (20 + 7 * q + 1))))) + 1)) (200 + (nn (w (20 + 7 * q + 1)))))) p (q + 1)) else (bX7_measures_41 w x n (upd (upd w41 (200 + (nn (w (20 + 7 * q)))) ((w41 (200 + (nn (w (20 + 7 * q + 1))))) + 1)) (200 + (nn (w (20 + 7 * q + 1)))) (((upd w41 (200 + (nn (w (20 + 7 * q)))) ((w41 (200 + (nn (w (20 + 7 * q + 1))))) + 1)) (200 + (nn (w (20 + 7 * q))))) + 1)) p (q + 1))))
def bX7_measures_2  (w : Row)(x : Int32) : Nat → Row → Nat → Row
  | 0, w2, _ => w2
  | n + 1, w2, p => if 8 ≤ nI p then (bX7_measures_41 w x 92 w2 1 0) else (if nI p = x then (bX7_measures_2 w x n (upd w2 (200 + p) 0) (p + 1)) else (bX7_measures_2 w x n (upd w2 (200 + p) 8) (p + 1)))
def sX7_measures (r : Row) (w : Row) (x : Int32) : Row := bX7_measures_2 w x 9 r 0
set_option maxHeartbeats 4000000 in
set_option maxRecDepth 100000 in
theorem mX7_measures (l : Launch) (E : EE) (B : Nat) (g : GS) (x : Int32) (r : Row) (w : Row)  (hw0 : g.2.2.1 0 = w) (hrn : Rn w) : CG l yX7_measures cX7_measures 6 none 1 21 E B [.ref (B + 459), .int x] (upR g r) none (upR g (sX7_measures r w x)) := by
  refine mkV (own := RX7) rfl (by decide) rfl (Nat.le_of_ble_eq_true rfl) (fun P_ e_ s_ m_ a_ below meth cd Q X _ fin ls hl hJ => ?_)
  have hx := X.1
  have hb := X.2.1
  have hl : lv_has ls 6 [(0, .ref (B + 459)), (1, .int x)] := hl
  have bk_41 : ∀ (n : Nat) (w41 : Row)  (p : Nat)  (q : Nat), 13 * (8 - p) - q < n → (p ≤ 7 ∧ q ≤ 12) → ∀ (H : Heap) (locs : List Loc) (ls : Array Slot), JG E B s_ (upR g w41) H locs → lv_has ls 6 [(0, .ref (B + 459)), (1, .int x), (2, .int (nI p)), (3, .int (nI q))] → sX7_measures r w x = bX7_measures_41 w x n w41 p q → W P_ l e_ (rmm 1 21 0 0) s_ m_ a_ below meth cd H locs 0 0 Q (F0 m_ 41 ls []) := by
    intro n
    induction n with
    | zero => intro w41 p q hm; exact absurd hm (Nat.not_lt_zero _)
    | succ n ih =>
      intro w41 p q hm hp H locs ls hJ hl hs
      refine lv_iload_n hx hb dX7_measures_41 rfl (lv_at hl 3 rfl) ?_
      refine lv_aload_n hx hb dX7_measures_42 rfl (lv_at hl 0 rfl) ?_
      refine gX7_7 X hJ (w := w41) rfl dX7_measures_43 ?_
      refine lv_iconst (v := 5) hx hb dX7_measures_46 (by decide) ?_
      refine ld_s X hJ (t := 0) (w := w) (by omega) hw0 (j := 5) (by decide) (by omega) dX7_measures_47 ?_
      refine lv_icmp_ge (tgt := 173) hx hb dX7_measures_48 (by decide) (fun c_48 => ?_) (fun c_48 => ?_)
      · skip
        refine lv_iinc (v := nI (p + 1)) (lv' := [(2, .int (nI (p + 1))), (0, .ref (B + 459)), (1, .int x), (3, .int (nI q))]) hx hb dX7_measures_173 hl (k := 2) rfl (by first | exact nI_add _ _ | rfl) (by decide) rfl (fun ls hl => ?_)
        refine lv_goto (tgt := 33) hx hb dX7_measures_176 (by decide) ?_
        refine lv_iload_n hx hb dX7_measures_33 rfl (lv_at hl 0 rfl) ?_
        refine lv_bipush (v := 8) hx hb dX7_measures_34 (by decide) ?_
        refine lv_icmp_ge (tgt := 179) hx hb dX7_measures_36 (by decide) (fun c_36 => ?_) (fun c_36 => ?_)
        · skip
          have hs : sX7_measures r w x = w41 := hs.trans (by rw [bX7_measures_41, if_pos c_48, if_pos c_36])
          exact fin (by rw [hs]; exact hJ) dX7_measures_179
        · skip
          try have hp3 := lit_lt (n := 8) c_36 (by omega) (by omega)
          refine lv_iconst (v := 0) hx hb dX7_measures_39 (by decide) ?_
          refine lv_istore_n (lv' := [(3, .int 0), (2, .int (nI (p + 1))), (0, .ref (B + 459)), (1, .int x)]) hx hb dX7_measures_40 rfl hl (by decide) rfl (fun ls hl => ?_)
          have hs : sX7_measures r w x = bX7_measures_41 w x n w41 (p + 1) 0 := hs.trans (by rw [bX7_measures_41, if_pos c_48, if_neg c_36])
          exact ih w41 (p + 1) 0 (by omega) (by omega) _ _ _ hJ (lv_sub hl [2, 3, 1, 0] rfl) hs
      · skip
        have hp2 := hrn.1.lt5 (by omega) c_48
        have hA := (hrn.2.2.1 q (by omega)).1.le
        have hB := (hrn.2.2.1 q (by omega)).2.1.le
        refine lv_aload_n hx hb dX7_measures_51 rfl (lv_at hl 0 rfl) ?_
        refine gX7_7 X hJ (w := w41) rfl dX7_measures_52 ?_
        refine lv_iconst (v := 0) hx hb dX7_measures_55 (by decide) ?_
        refine lv_iload_n hx hb dX7_measures_56 rfl (lv_at hl 3 rfl) ?_
        refine kX7_31 X hJ (qX7_bridgeAt l E B _ 0 q) rfl hl.1 ⟨Nat.le_of_ble_eq_true rfl, Nat.le_of_ble_eq_true rfl⟩ ⟨Nat.le_refl _, Nat.le_refl _⟩ (rest := [.ref (B + 460)]) rfl (Nat.le_of_ble_eq_true rfl) dX7_measures_57 (fun H locs hJ => ?_)
        refine ld_s X hJ (t := 0) (w := w) (by omega) hw0 (j := 20 + 7 * q) (rfl) (by omega) dX7_measures_60 ?_
        refine cvt (y := nI (nn (w (20 + 7 * q)))) ((hrn.2.2.1 q (by omega)).1.eq) ?_
        refine lv_istore (lv' := [(4, .int (nI (nn (w (20 + 7 * q))))), (0, .ref (B + 459)), (1, .int x), (2, .int (nI p)), (3, .int (nI q))]) hx hb dX7_measures_61 hl (by decide) rfl (fun ls hl => ?_)
        refine lv_aload_n hx hb dX7_measures_63 rfl (lv_at hl 1 rfl) ?_
        refine gX7_7 X hJ (w := w41) rfl dX7_measures_64 ?_
        refine lv_iconst (v := 0) hx hb dX7_measures_67 (by decide) ?_
        refine lv_iload_n hx hb dX7_measures_68 rfl (lv_at hl 4 rfl) ?_
        refine kX7_31 X hJ (qX7_bridgeAt l E B _ 0 q) rfl hl.1 ⟨Nat.le_of_ble_eq_true rfl, Nat.le_of_ble_eq_true rfl⟩ ⟨Nat.le_refl _, Nat.le_refl _⟩ (rest := [.ref (B + 460)]) rfl (Nat.le_of_ble_eq_true rfl) dX7_measures_69 (fun H locs hJ => ?_)
        refine lv_iconst (v := 1) hx hb dX7_measures_72 (by decide) ?_
        refine xiadd (z := nI (360 * 0 + (20 + 7 * q + 1))) hx hb dX7_measures_73 (nI_a3 0 (20 + 7 * q) 1) ?_
        refine ld_s X hJ (t := 0) (w := w) (by omega) hw0 (j := 20 + 7 * q + 1) (rfl) (by omega) dX7_measures_74 ?_
        refine cvt (y := nI (nn (w (20 + 7 * q + 1)))) ((hrn.2.2.1 q (by omega)).2.1.eq) ?_
        refine lv_istore (lv' := [(5, .int (nI (nn (w (20 + 7 * q + 1))))), (4, .int (nI (nn (w (20 + 7 * q))))), (0, .ref (B + 459)), (1, .int x), (2, .int (nI p)), (3, .int (nI q))]) hx hb dX7_measures_75 hl (by decide) rfl (fun ls hl => ?_)
        refine lv_aload_n hx hb dX7_measures_77 rfl (lv_at hl 2 rfl) ?_
        refine gX7_20 X hJ (w := w41) rfl dX7_measures_78 ?_
        refine lv_iload hx hb dX7_measures_81 (lv_at hl 1 rfl) ?_
        refine lv_aload_n hx hb dX7_measures_83 rfl (lv_at hl 2 rfl) ?_
        refine gX7_20 X hJ (w := w41) rfl dX7_measures_84 ?_
        refine lv_iload hx hb dX7_measures_87 (lv_at hl 0 rfl) ?_
        refine ld_away X hJ (w := w41) rfl (j := nn (w (20 + 7 * q + 1))) (rfl) (by omega) dX7_measures_89 ?_
        refine lv_iconst (v := 1) hx hb dX7_measures_90 (by decide) ?_
        refine lv_iadd hx hb dX7_measures_91 ?_
        refine lv_aload_n hx hb dX7_measures_92 rfl (lv_at hl 2 rfl) ?_
        refine gX7_20 X hJ (w := w41) rfl dX7_measures_93 ?_
        refine lv_iload hx hb dX7_measures_96 (lv_at hl 1 rfl) ?_
        refine ld_away X hJ (w := w41) rfl (j := nn (w (20 + 7 * q))) (rfl) (by omega) dX7_measures_98 ?_
        refine lv_icmp_ge (tgt := 114) hx hb dX7_measures_99 (by decide) (fun c_99 => ?_) (fun c_99 => ?_)
        · skip
          refine lv_aload_n hx hb dX7_measures_114 rfl (lv_at hl 2 rfl) ?_
          refine gX7_20 X hJ (w := w41) rfl dX7_measures_115 ?_
          refine lv_iload hx hb dX7_measures_118 (lv_at hl 1 rfl) ?_
          refine ld_away X hJ (w := w41) rfl (j := nn (w (20 + 7 * q))) (rfl) (by omega) dX7_measures_120 ?_
          refine st_away X hJ (j := nn (w (20 + 7 * q))) (rfl) (by omega) dX7_measures_121 (fun H locs hJ => ?_)
          refine lv_aload_n hx hb dX7_measures_122 rfl (lv_at hl 2 rfl) ?_
          refine gX7_20 X hJ (w := upd w41 (200 + (nn (w (20 + 7 * q)))) (w41 (200 + (nn (w (20 + 7 * q)))))) rfl dX7_measures_123 ?_
          refine lv_iload hx hb dX7_measures_126 (lv_at hl 0 rfl) ?_
          refine lv_aload_n hx hb dX7_measures_128 rfl (lv_at hl 2 rfl) ?_
          refine gX7_20 X hJ (w := upd w41 (200 + (nn (w (20 + 7 * q)))) (w41 (200 + (nn (w (20 + 7 * q)))))) rfl dX7_measures_129 ?_
          refine lv_iload hx hb dX7_measures_132 (lv_at hl 1 rfl) ?_
          refine ld_away X hJ (w := upd w41 (200 + (nn (w (20 + 7 * q)))) (w41 (200 + (nn (w (20 + 7 * q)))))) rfl (j := nn (w (20 + 7 * q))) (rfl) (by omega) dX7_measures_134 ?_
          refine lv_iconst (v := 1) hx hb dX7_measures_135 (by decide) ?_
          refine lv_iadd hx hb dX7_measures_136 ?_
          refine lv_aload_n hx hb dX7_measures_137 rfl (lv_at hl 2 rfl) ?_
          refine gX7_20 X hJ (w := upd w41 (200 + (nn (w (20 + 7 * q)))) (w41 (200 + (nn (w (20 + 7 * q)))))) rfl dX7_measures_138 ?_
          refine lv_iload hx hb dX7_measures_141 (lv_at hl 0 rfl) ?_
          refine ld_away X hJ (w := upd w41 (200 + (nn (w (20 + 7 * q)))) (w41 (200 + (nn (w (20 + 7 * q)))))) rfl (j := nn (w (20 + 7 * q + 1))) (rfl) (by omega) dX7_measures_143 ?_
          refine lv_icmp_ge (tgt := 159) hx hb dX7_measures_144 (by decide) (fun c_144 => ?_) (fun c_144 => ?_)
          · skip
            refine lv_aload_n hx hb dX7_measures_159 rfl (lv_at hl 2 rfl) ?_
            refine gX7_20 X hJ (w := upd w41 (200 + (nn (w (20 + 7 * q)))) (w41 (200 + (nn (w (20 + 7 * q)))))) rfl dX7_measures_160 ?_
            refine lv_iload hx hb dX7_measures_163 (lv_at hl 0 rfl) ?_
            refine ld_away X hJ (w := upd w41 (200 + (nn (w (20 + 7 * q)))) (w41 (200 + (nn (w (20 + 7 * q)))))) rfl (j := nn (w (20 + 7 * q + 1))) (rfl) (by omega) dX7_measures_165 ?_
            refine st_away X hJ (j := nn (w (20 + 7 * q + 1))) (rfl) (by omega) dX7_measures_166 (fun H locs hJ => ?_)
            refine lv_iinc (v := nI (q + 1)) (lv' := [(3, .int (nI (q + 1))), (5, .int (nI (nn (w (20 + 7 * q + 1))))), (4, .int (nI (nn (w (20 + 7 * q))))), (0, .ref (B + 459)), (1, .int x), (2, .int (nI p))]) hx hb dX7_measures_167 hl (k := 5) rfl (by first | exact nI_add _ _ | rfl) (by decide) rfl (fun ls hl => ?_)
            refine lv_goto (tgt := 41) hx hb dX7_measures_170 (by decide) ?_
            have hs : sX7_measures r w x = bX7_measures_41 w x n (upd (upd w41 (200 + (nn (w (20 + 7 * q)))) (w41 (200 + (nn (w (20 + 7 * q)))))) (200 + (nn (w (20 + 7 * q + 1)))) ((upd w41 (200 + (nn (w (20 + 7 * q)))) (w41 (200 + (nn (w (20 + 7 * q)))))) (200 + (nn (w (20 + 7 * q + 1)))))) p (q + 1) := hs.trans (by rw [bX7_measures_41, if_neg c_48, if_pos c_99, if_pos c_144])
            exact ih (upd (upd w41 (200 + (nn (w (20 + 7 * q)))) (w41 (200 + (nn (w (20 + 7 * q)))))) (200 + (nn (w (20 + 7 * q + 1)))) ((upd w41 (200 + (nn (w (20 + 7 * q)))) (w41 (200 + (nn (w (20 + 7 * q)))))) (200 + (nn (w (20 + 7 * q + 1)))))) p (q + 1) (by omega) (by omega) _ _ _ hJ (lv_sub hl [3, 4, 5, 0] rfl) hs
          · skip
            refine lv_aload_n hx hb dX7_measures_147 rfl (lv_at hl 2 rfl) ?_
            refine gX7_20 X hJ (w := upd w41 (200 + (nn (w (20 + 7 * q)))) (w41 (200 + (nn (w (20 + 7 * q)))))) rfl dX7_measures_148 ?_
            refine lv_iload hx hb dX7_measures_151 (lv_at hl 1 rfl) ?_
            refine ld_away X hJ (w := upd w41 (200 + (nn (w (20 + 7 * q)))) (w41 (200 + (nn (w (20 + 7 * q)))))) rfl (j := nn (w (20 + 7 * q))) (rfl) (by omega) dX7_measures_153 ?_
            refine lv_iconst (v := 1) hx hb dX7_measures_154 (by decide) ?_
            refine lv_iadd hx hb dX7_measures_155 ?_
            refine lv_goto (tgt := 166) hx hb dX7_measures_156 (by decide) ?_
            refine st_away X hJ (j := nn (w (20 + 7 * q + 1))) (rfl) (by omega) dX7_measures_166 (fun H locs hJ => ?_)
            refine lv_iinc (v := nI (q + 1)) (lv' := [(3, .int (nI (q + 1))), (5, .int (nI (nn (w (20 + 7 * q + 1))))), (4, .int (nI (nn (w (20 + 7 * q))))), (0, .ref (B + 459)), (1, .int x), (2, .int (nI p))]) hx hb dX7_measures_167 hl (k := 5) rfl (by first | exact nI_add _ _ | rfl) (by decide) rfl (fun ls hl => ?_)
            refine lv_goto (tgt := 41) hx hb dX7_measures_170 (by decide) ?_
            have hs : sX7_measures r w x = bX7_measures_41 w x n (upd (upd w41 (200 + (nn (w (20 + 7 * q)))) (w41 (200 + (nn (w (20 + 7 * q)))))) (200 + (nn (w (20 + 7 * q + 1)))) (((upd w41 (200 + (nn (w (20 + 7 * q)))) (w41 (200 + (nn (w (20 + 7 * q)))))) (200 + (nn (w (20 + 7 * q))))) + 1)) p (q + 1) := hs.trans (by rw [bX7_measures_41, if_neg c_48, if_pos c_99, if_neg c_144])
            exact ih (upd (upd w41 (200 + (nn (w (20 + 7 * q)))) (w41 (200 + (nn (w (20 + 7 * q)))))) (200 + (nn (w (20 + 7 * q + 1)))) (((upd w41 (200 + (nn (w (20 + 7 * q)))) (w41 (200 + (nn (w (20 + 7 * q)))))) (200 + (nn (w (20 + 7 * q))))) + 1)) p (q + 1) (by omega) (by omega) _ _ _ hJ (lv_sub hl [3, 4, 5, 0] rfl) hs
        · skip
          refine lv_aload_n hx hb dX7_measures_102 rfl (lv_at hl 2 rfl) ?_
          refine gX7_20 X hJ (w := w41) rfl dX7_measures_103 ?_
          refine lv_iload hx hb dX7_measures_106 (lv_at hl 0 rfl) ?_
          refine ld_away X hJ (w := w41) rfl (j := nn (w (20 + 7 * q + 1))) (rfl) (by omega) dX7_measures_108 ?_
          refine lv_iconst (v := 1) hx hb dX7_measures_109 (by decide) ?_
          refine lv_iadd hx hb dX7_measures_110 ?_
          refine lv_goto (tgt := 121) hx hb dX7_measures_111 (by decide) ?_
          refine st_away X hJ (j := nn (w (20 + 7 * q))) (rfl) (by omega) dX7_measures_121 (fun H locs hJ => ?_)
          refine lv_aload_n hx hb dX7_measures_122 rfl (lv_at hl 2 rfl) ?_
          refine gX7_20 X hJ (w := upd w41 (200 + (nn (w (20 + 7 * q)))) ((w41 (200 + (nn (w (20 + 7 * q + 1))))) + 1)) rfl dX7_measures_123 ?_
          refine lv_iload hx hb dX7_measures_126 (lv_at hl 0 rfl) ?_
          refine lv_aload_n hx hb dX7_measures_128 rfl (lv_at hl 2 rfl) ?_
          refine gX7_20 X hJ (w := upd w41 (200 + (nn (w (20 + 7 * q)))) ((w41 (200 + (nn (w (20 + 7 * q + 1))))) + 1)) rfl dX7_measures_129 ?_
          refine lv_iload hx hb dX7_measures_132 (lv_at hl 1 rfl) ?_
          refine ld_away X hJ (w := upd w41 (200 + (nn (w (20 + 7 * q)))) ((w41 (200 + (nn (w (20 + 7 * q + 1))))) + 1)) rfl (j := nn (w (20 + 7 * q))) (rfl) (by omega) dX7_measures_134 ?_
          refine lv_iconst (v := 1) hx hb dX7_measures_135 (by decide) ?_
          refine lv_iadd hx hb dX7_measures_136 ?_
          refine lv_aload_n hx hb dX7_measures_137 rfl (lv_at hl 2 rfl) ?_
          refine gX7_20 X hJ (w := upd w41 (200 + (nn (w (20 + 7 * q)))) ((w41 (200 + (nn (w (20 + 7 * q + 1))))) + 1)) rfl dX7_measures_138 ?_
          refine lv_iload hx hb dX7_measures_141 (lv_at hl 0 rfl) ?_
          refine ld_away X hJ (w := upd w41 (200 + (nn (w (20 + 7 * q)))) ((w41 (200 + (nn (w (20 + 7 * q + 1))))) + 1)) rfl (j := nn (w (20 + 7 * q + 1))) (rfl) (by omega) dX7_measures_143 ?_
          refine lv_icmp_ge (tgt := 159) hx hb dX7_measures_144 (by decide) (fun c_144 => ?_) (fun c_144 => ?_)
          · skip
            refine lv_aload_n hx hb dX7_measures_159 rfl (lv_at hl 2 rfl) ?_
            refine gX7_20 X hJ (w := upd w41 (200 + (nn (w (20 + 7 * q)))) ((w41 (200 + (nn (w (20 + 7 * q + 1))))) + 1)) rfl dX7_measures_160 ?_
            refine lv_iload hx hb dX7_measures_163 (lv_at hl 0 rfl) ?_
            refine ld_away X hJ (w := upd w41 (200 + (nn (w (20 + 7 * q)))) ((w41 (200 + (nn (w (20 + 7 * q + 1))))) + 1)) rfl (j := nn (w (20 + 7 * q + 1))) (rfl) (by omega) dX7_measures_165 ?_
            refine st_away X hJ (j := nn (w (20 + 7 * q + 1))) (rfl) (by omega) dX7_measures_166 (fun H locs hJ => ?_)
            refine lv_iinc (v := nI (q + 1)) (lv' := [(3, .int (nI (q + 1))), (5, .int (nI (nn (w (20 + 7 * q + 1))))), (4, .int (nI (nn (w (20 + 7 * q))))), (0, .ref (B + 459)), (1, .int x), (2, .int (nI p))]) hx hb dX7_measures_167 hl (k := 5) rfl (by first | exact nI_add _ _ | rfl) (by decide) rfl (fun ls hl => ?_)
            refine lv_goto (tgt := 41) hx hb dX7_measures_170 (by decide) ?_
            have hs : sX7_measures r w x = bX7_measures_41 w x n (upd (upd w41 (200 + (nn (w (20 + 7 * q)))) ((w41 (200 + (nn (w (20 + 7 * q + 1))))) + 1)) (200 + (nn (w (20 + 7 * q + 1)))) ((upd w41 (200 + (nn (w (20 + 7 * q)))) ((w41 (200 + (nn (w (20 + 7 * q + 1))))) + 1)) (200 + (nn (w (20 + 7 * q + 1)))))) p (q + 1) := hs.trans (by rw [bX7_measures_41, if_neg c_48, if_neg c_99, if_pos c_144])
            exact ih (upd (upd w41 (200 + (nn (w (20 + 7 * q)))) ((w41 (200 + (nn (w (20 + 7 * q + 1))))) + 1)) (200 + (nn (w (20 + 7 * q + 1)))) ((upd w41 (200 + (nn (w (20 + 7 * q)))) ((w41 (200 + (nn (w (20 + 7 * q + 1))))) + 1)) (200 + (nn (w (20 + 7 * q + 1)))))) p (q + 1) (by omega) (by omega) _ _ _ hJ (lv_sub hl [3, 4, 5, 0] rfl) hs
          · skip
            refine lv_aload_n hx hb dX7_measures_147 rfl (lv_at hl 2 rfl) ?_
            refine gX7_20 X hJ (w := upd w41 (200 + (nn (w (20 + 7 * q)))) ((w41 (200 + (nn (w (20 + 7 * q + 1))))) + 1)) rfl dX7_measures_148 ?_
            refine lv_iload hx hb dX7_measures_151 (lv_at hl 1 rfl) ?_
            refine ld_away X hJ (w := upd w41 (200 + (nn (w (20 + 7 * q)))) ((w41 (200 + (nn (w (20 + 7 * q + 1))))) + 1)) rfl (j := nn (w (20 + 7 * q))) (rfl) (by omega) dX7_measures_153 ?_
            refine lv_iconst (v := 1) hx hb dX7_measures_154 (by decide) ?_
            refine lv_iadd hx hb dX7_measures_155 ?_
            refine lv_goto (tgt := 166) hx hb dX7_measures_156 (by decide) ?_
            refine st_away X hJ (j := nn (w (20 + 7 * q + 1))) (rfl) (by omega) dX7_measures_166 (fun H locs hJ => ?_)
            refine lv_iinc (v := nI (q + 1)) (lv' := [(3, .int (nI (q + 1))), (5, .int (nI (nn (w (20 + 7 * q + 1))))), (4, .int (nI (nn (w (20 + 7 * q))))), (0, .ref (B + 459)), (1, .int x), (2, .int (nI p))]) hx hb dX7_measures_167 hl (k := 5) rfl (by first | exact nI_add _ _ | rfl) (by decide) rfl (fun ls hl => ?_)
            refine lv_goto (tgt := 41) hx hb dX7_measures_170 (by decide) ?_
            have hs : sX7_measures r w x = bX7_measures_41 w x n (upd (upd w41 (200 + (nn (w (20 + 7 * q)))) ((w41 (200 + (nn (w (20 + 7 * q + 1))))) + 1)) (200 + (nn (w (20 + 7 * q + 1)))) (((upd w41 (200 + (nn (w (20 + 7 * q)))) ((w41 (200 + (nn (w (20 + 7 * q + 1))))) + 1)) (200 + (nn (w (20 + 7 * q))))) + 1)) p (q + 1) := hs.trans (by rw [bX7_measures_41, if_neg c_48, if_neg c_99, if_neg c_144])
            exact ih (upd (upd w41 (200 + (nn (w (20 + 7 * q)))) ((w41 (200 + (nn (w (20 + 7 * q + 1))))) + 1)) (200 + (nn (w (20 + 7 * q + 1)))) (((upd w41 (200 + (nn (w (20 + 7 * q)))) ((w41 (200 + (nn (w (20 + 7 * q + 1))))) + 1)) (200 + (nn (w (20 + 7 * q))))) + 1)) p (q + 1) (by omega) (by omega) _ _ _ hJ (lv_sub hl [3, 4, 5, 0] rfl) hs
  have bk_2 : ∀ (n : Nat) (w2 : Row)  (p : Nat), 8 - p < n → (p ≤ 8) → ∀ (H : Heap) (locs : List Loc) (ls : Array Slot), JG E B s_ (upR g w2) H locs → lv_has ls 6 [(0, .ref (B + 459)), (1, .int x), (2, .int (nI p))] → sX7_measures r w x = bX7_measures_2 w x n w2 p → W P_ l e_ (rmm 1 21 0 0) s_ m_ a_ below meth cd H locs 0 0 Q (F0 m_ 2 ls []) := by
    intro n
    induction n with
    | zero => intro w2 p hm; exact absurd hm (Nat.not_lt_zero _)
    | succ n ih =>
      intro w2 p hm hp H locs ls hJ hl hs
      refine lv_iload_n hx hb dX7_measures_2 rfl (lv_at hl 2 rfl) ?_
      refine lv_bipush (v := 8) hx hb dX7_measures_3 (by decide) ?_
      refine lv_icmp_ge (tgt := 31) hx hb dX7_measures_5 (by decide) (fun c_5 => ?_) (fun c_5 => ?_)
      · skip
        refine lv_iconst (v := 1) hx hb dX7_measures_31 (by decide) ?_
        refine lv_istore_n (lv' := [(2, .int 1), (0, .ref (B + 459)), (1, .int x)]) hx hb dX7_measures_32 rfl hl (by decide) rfl (fun ls hl => ?_)
        refine lv_iload_n hx hb dX7_measures_33 rfl (lv_at hl 0 rfl) ?_
        refine lv_bipush (v := 8) hx hb dX7_measures_34 (by decide) ?_
        refine lv_icmp_ge (tgt := 179) hx hb dX7_measures_36 (by decide) (fun c_36 => ?_) (fun c_36 => ?_)
        · exact absurd c_36 (by decide)
        · skip
          try have hp3 := lit_lt (n := 8) c_36 (by omega) (by omega)
          refine lv_iconst (v := 0) hx hb dX7_measures_39 (by decide) ?_
          refine lv_istore_n (lv' := [(3, .int 0), (2, .int 1), (0, .ref (B + 459)), (1, .int x)]) hx hb dX7_measures_40 rfl hl (by decide) rfl (fun ls hl => ?_)
          have hs : sX7_measures r w x = bX7_measures_41 w x 92 w2 1 0 := hs.trans (by rw [bX7_measures_2, if_pos c_5])
          exact bk_41 92 w2 1 0 (by omega) (by omega) _ _ _ hJ (lv_sub hl [2, 3, 1, 0] rfl) hs
      · skip
        have hp2 := lit_lt (n := 8) c_5 (by omega) (by omega)
        refine lv_aload_n hx hb dX7_measures_8 rfl (lv_at hl 0 rfl) ?_
        refine gX7_20 X hJ (w := w2) rfl dX7_measures_9 ?_
        refine lv_iload_n hx hb dX7_measures_12 rfl (lv_at hl 2 rfl) ?_
        refine lv_iload_n hx hb dX7_measures_13 rfl (lv_at hl 2 rfl) ?_
        refine lv_iload_n hx hb dX7_measures_14 rfl (lv_at hl 1 rfl) ?_
        refine lv_icmp_ne (tgt := 22) hx hb dX7_measures_15 (by decide) (fun c_15 => ?_) (fun c_15 => ?_)
        · skip
          refine lv_bipush (v := 8) hx hb dX7_measures_22 (by decide) ?_
          refine st_away X hJ (j := p) (rfl) (by omega) dX7_measures_24 (fun H locs hJ => ?_)
          refine lv_iinc (v := nI (p + 1)) (lv' := [(2, .int (nI (p + 1))), (0, .ref (B + 459)), (1, .int x)]) hx hb dX7_measures_25 hl (k := 2) rfl (by first | exact nI_add _ _ | rfl) (by decide) rfl (fun ls hl => ?_)
          refine lv_goto (tgt := 2) hx hb dX7_measures_28 (by decide) ?_
          have hs : sX7_measures r w x = bX7_measures_2 w x n (upd w2 (200 + p) 8) (p + 1) := hs.trans (by rw [bX7_measures_2, if_neg c_5, if_neg c_15])
          exact ih (upd w2 (200 + p) 8) (p + 1) (by omega) (by omega) _ _ _ hJ (lv_sub hl [1, 2, 0] rfl) hs
        · skip
          refine lv_iconst (v := 0) hx hb dX7_measures_18 (by decide) ?_
          refine lv_goto (tgt := 24) hx hb dX7_measures_19 (by decide) ?_
          refine st_away X hJ (j := p) (rfl) (by omega) dX7_measures_24 (fun H locs hJ => ?_)
          refine lv_iinc (v := nI (p + 1)) (lv' := [(2, .int (nI (p + 1))), (0, .ref (B + 459)), (1, .int x)]) hx hb dX7_measures_25 hl (k := 2) rfl (by first | exact nI_add _ _ | rfl) (by decide) rfl (fun ls hl => ?_)
          refine lv_goto (tgt := 2) hx hb dX7_measures_28 (by decide) ?_
          have hs : sX7_measures r w x = bX7_measures_2 w x n (upd w2 (200 + p) 0) (p + 1) := hs.trans (by rw [bX7_measures_2, if_neg c_5, if_pos c_15])
          exact ih (upd w2 (200 + p) 0) (p + 1) (by omega) (by omega) _ _ _ hJ (lv_sub hl [1, 2, 0] rfl) hs
  refine lv_iconst (v := 0) hx hb dX7_measures_0 (by decide) ?_
  refine lv_istore_n (lv' := [(2, .int 0), (0, .ref (B + 459)), (1, .int x)]) hx hb dX7_measures_1 rfl hl (by decide) rfl (fun ls hl => ?_)
  have hs : sX7_measures r w x = bX7_measures_2 w x 9 r 0 := by unfold sX7_measures; rfl
  exact bk_2 9 r 0 (by omega) (by omega) _ _ _ hJ (lv_sub hl [1, 2, 0] rfl) hs

def bX7_firstBridge_12 (r : Row) (w : Row) (f : Nat) : Nat → Int32 → Nat → Int32
  | 0, _, _ => 0
  | n + 1, fd, q => if nI q - 1 < 0 then (fd) else (if nI (nn (w (20 + 7 * (q - 1)))) = nI f then (if r (200 + (nn (w (20 + 7 * (q - 1) + 1)))) = (r (200 + f)) - 1 then (bX7_firstBridge_12 r w f n (nI (q - 1)) (q - 1)) else (if nI (nn (w (20 + 7 * (q - 1) + 1))) = nI f then (if r (200 + (nn (w (20 + 7 * (q - 1))))) = (r (200 + f)) - 1 then (bX7_firstBridge_12 r w f n (nI (q - 1)) (q - 1)) else (bX7_firstBridge_12 r w f n fd (q - 1))) else (bX7_firstBridge_12 r w f n fd (q - 1)))) else (if nI (nn (w (20 + 7 * (q - 1) + 1))) = nI f then (if r (200 + (nn (w (20 + 7 * (q - 1))))) = (r (200 + f)) - 1 then (bX7_firstBridge_12 r w f n (nI (q - 1)) (q - 1)) else (bX7_firstBridge_12 r w f n fd (q - 1))) else (bX7_firstBridge_12 r w f n fd (q - 1))))
def sX7_firstBridge (r : Row) (w : Row) (f : Nat) : Int32 := bX7_firstBridge_12 r w f 13 (-6) (nn (w (5)))
set_option maxHeartbeats 4000000 in
set_option maxRecDepth 100000 in
theorem mX7_firstBridge (l : Launch) (E : EE) (B : Nat) (g : GS) (f : Nat) (r : Row) (w : Row) (hf : f < 8) (hw : g.2.2.2 = r) (hw0 : g.2.2.1 0 = w) (hrn : Rn w) : CG l yX7_firstBridge cX7_firstBridge 7 (some .int) 1 21 E B [.ref (B + 459), .int (nI f)] g (some (.int (sX7_firstBridge r w f))) g := by
  refine mkI (own := RX7) (ty := .int) rfl (by decide) rfl (rfl) (Nat.le_of_ble_eq_true rfl) (fun P_ e_ s_ m_ a_ below meth cd Q X fin ls hl hJ => ?_)
  have hx := X.1
  have hb := X.2.1
  have hl : lv_has ls 7 [(0, .ref (B + 459)), (1, .int (nI f))] := hl
  have bk_12 : ∀ (n : Nat) (fd : Int32)  (q : Nat), q < n → (q ≤ 12) → ∀ (H : Heap) (locs : List Loc) (ls : Array Slot), JG E B s_ (g) H locs → lv_has ls 7 [(0, .ref (B + 459)), (1, .int (nI f)), (2, .int fd), (3, .int (nI q - 1))] → sX7_firstBridge r w f = bX7_firstBridge_12 r w f n fd q → W P_ l e_ (rmm 1 21 0 0) s_ m_ a_ below meth cd H locs 0 0 Q (F0 m_ 12 ls []) := by
    intro n
    induction n with
    | zero => intro fd q hm; exact absurd hm (Nat.not_lt_zero _)
    | succ n ih =>
      intro fd q hm hq H locs ls hJ hl hs
      refine lv_iload_n hx hb dX7_firstBridge_12 rfl (lv_at hl 3 rfl) ?_
      refine lv_if_lt (tgt := 114) hx hb dX7_firstBridge_13 (by decide) (fun c_13 => ?_) (fun c_13 => ?_)
      · skip
        refine lv_iload_n hx hb dX7_firstBridge_114 rfl (lv_at hl 2 rfl) ?_
        have hs : sX7_firstBridge r w f = fd := hs.trans (by rw [bX7_firstBridge_12, if_pos c_13])
        exact fin hJ (by rw [hs]) dX7_firstBridge_115
      · skip
        have hq0 : 0 < q := Nat.pos_of_ne_zero (fun e => c_13 (by rw [e]; decide))
        have hA := (hrn.2.2.1 (q - 1) (by omega)).1.le
        have hB := (hrn.2.2.1 (q - 1) (by omega)).2.1.le
        have hl : lv_has ls 7 [(0, .ref (B + 459)), (1, .int (nI f)), (2, .int fd), (3, .int (nI (q - 1)))] := by rw [← show nI q - 1 = nI (q - 1) from nI_pr hq0]; exact hl
        refine lv_aload_n hx hb dX7_firstBridge_16 rfl (lv_at hl 0 rfl) ?_
        refine gX7_7 X hJ (w := r) hw dX7_firstBridge_17 ?_
        refine lv_iconst (v := 0) hx hb dX7_firstBridge_20 (by decide) ?_
        refine lv_iload_n hx hb dX7_firstBridge_21 rfl (lv_at hl 3 rfl) ?_
        refine kX7_31 X hJ (qX7_bridgeAt l E B _ 0 (q - 1)) rfl hl.1 ⟨Nat.le_of_ble_eq_true rfl, Nat.le_of_ble_eq_true rfl⟩ ⟨Nat.le_refl _, Nat.le_refl _⟩ (rest := [.ref (B + 460)]) rfl (Nat.le_of_ble_eq_true rfl) dX7_firstBridge_22 (fun H locs hJ => ?_)
        refine ld_s X hJ (t := 0) (w := w) (by omega) hw0 (j := 20 + 7 * (q - 1)) (rfl) (by omega) dX7_firstBridge_25 ?_
        refine cvt (y := nI (nn (w (20 + 7 * (q - 1))))) ((hrn.2.2.1 (q - 1) (by omega)).1.eq) ?_
        refine lv_istore (lv' := [(4, .int (nI (nn (w (20 + 7 * (q - 1)))))), (0, .ref (B + 459)), (1, .int (nI f)), (2, .int fd), (3, .int (nI (q - 1)))]) hx hb dX7_firstBridge_26 hl (by decide) rfl (fun ls hl => ?_)
        refine lv_aload_n hx hb dX7_firstBridge_28 rfl (lv_at hl 1 rfl) ?_
        refine gX7_7 X hJ (w := r) hw dX7_firstBridge_29 ?_
        refine lv_iconst (v := 0) hx hb dX7_firstBridge_32 (by decide) ?_
        refine lv_iload_n hx hb dX7_firstBridge_33 rfl (lv_at hl 4 rfl) ?_
        refine kX7_31 X hJ (qX7_bridgeAt l E B _ 0 (q - 1)) rfl hl.1 ⟨Nat.le_of_ble_eq_true rfl, Nat.le_of_ble_eq_true rfl⟩ ⟨Nat.le_refl _, Nat.le_refl _⟩ (rest := [.ref (B + 460)]) rfl (Nat.le_of_ble_eq_true rfl) dX7_firstBridge_34 (fun H locs hJ => ?_)
        refine lv_iconst (v := 1) hx hb dX7_firstBridge_37 (by decide) ?_
        refine xiadd (z := nI (360 * 0 + (20 + 7 * (q - 1) + 1))) hx hb dX7_firstBridge_38 (nI_a3 0 (20 + 7 * (q - 1)) 1) ?_
        refine ld_s X hJ (t := 0) (w := w) (by omega) hw0 (j := 20 + 7 * (q - 1) + 1) (rfl) (by omega) dX7_firstBridge_39 ?_
        refine cvt (y := nI (nn (w (20 + 7 * (q - 1) + 1)))) ((hrn.2.2.1 (q - 1) (by omega)).2.1.eq) ?_
        refine lv_istore (lv' := [(5, .int (nI (nn (w (20 + 7 * (q - 1) + 1))))), (4, .int (nI (nn (w (20 + 7 * (q - 1)))))), (0, .ref (B + 459)), (1, .int (nI f)), (2, .int fd), (3, .int (nI (q - 1)))]) hx hb dX7_firstBridge_40 hl (by decide) rfl (fun ls hl => ?_)
        refine lv_iload hx hb dX7_firstBridge_42 (lv_at hl 1 rfl) ?_
        refine lv_iload_n hx hb dX7_firstBridge_44 rfl (lv_at hl 3 rfl) ?_
        refine lv_icmp_ne (tgt := 66) hx hb dX7_firstBridge_45 (by decide) (fun c_45 => ?_) (fun c_45 => ?_)
        · skip
          refine lv_iload hx hb dX7_firstBridge_66 (lv_at hl 0 rfl) ?_
          refine lv_iload_n hx hb dX7_firstBridge_68 rfl (lv_at hl 3 rfl) ?_
          refine lv_icmp_ne (tgt := 94) hx hb dX7_firstBridge_69 (by decide) (fun c_69 => ?_) (fun c_69 => ?_)
          · skip
            refine lv_iconst (v := 0) hx hb dX7_firstBridge_94 (by decide) ?_
            refine lv_istore (lv' := [(6, .int 0), (5, .int (nI (nn (w (20 + 7 * (q - 1) + 1))))), (4, .int (nI (nn (w (20 + 7 * (q - 1)))))), (0, .ref (B + 459)), (1, .int (nI f)), (2, .int fd), (3, .int (nI (q - 1)))]) hx hb dX7_firstBridge_95 hl (by decide) rfl (fun ls hl => ?_)
            refine lv_iload hx hb dX7_firstBridge_97 (lv_at hl 0 rfl) ?_
            refine lv_if_eq (tgt := 106) hx hb dX7_firstBridge_99 (by decide) (fun c_99 => ?_) (fun c_99 => ?_)
            · skip
              refine lv_iload_n hx hb dX7_firstBridge_106 rfl (lv_at hl 5 rfl) ?_
              refine lv_istore_n (lv' := [(2, .int fd), (6, .int 0), (5, .int (nI (nn (w (20 + 7 * (q - 1) + 1))))), (4, .int (nI (nn (w (20 + 7 * (q - 1)))))), (0, .ref (B + 459)), (1, .int (nI f)), (3, .int (nI (q - 1)))]) hx hb dX7_firstBridge_107 rfl hl (by decide) rfl (fun ls hl => ?_)
              refine lv_iinc (v := nI (q - 1) - 1) (lv' := [(3, .int (nI (q - 1) - 1)), (2, .int fd), (6, .int 0), (5, .int (nI (nn (w (20 + 7 * (q - 1) + 1))))), (4, .int (nI (nn (w (20 + 7 * (q - 1)))))), (0, .ref (B + 459)), (1, .int (nI f))]) hx hb dX7_firstBridge_108 hl (k := 6) rfl (by first | exact (show nI (q - 1) + (-1) = nI (q - 1) - 1 from (Int32.sub_eq_add_neg _ _).symm) | rfl) (by decide) rfl (fun ls hl => ?_)
              refine lv_goto (tgt := 12) hx hb dX7_firstBridge_111 (by decide) ?_
              have hs : sX7_firstBridge r w f = bX7_firstBridge_12 r w f n fd (q - 1) := hs.trans (by rw [bX7_firstBridge_12, if_neg c_13, if_neg c_45, if_neg c_69])
              exact ih fd (q - 1) (by omega) (by omega) _ _ _ hJ (lv_sub hl [5, 6, 1, 0] rfl) hs
            · exact absurd c_99 (by decide)
          · skip
            refine lv_aload_n hx hb dX7_firstBridge_72 rfl (lv_at hl 2 rfl) ?_
            refine gX7_20 X hJ (w := r) hw dX7_firstBridge_73 ?_
            refine lv_iload hx hb dX7_firstBridge_76 (lv_at hl 1 rfl) ?_
            refine ld_away X hJ (w := r) hw (j := nn (w (20 + 7 * (q - 1)))) (rfl) (by omega) dX7_firstBridge_78 ?_
            refine lv_aload_n hx hb dX7_firstBridge_79 rfl (lv_at hl 2 rfl) ?_
            refine gX7_20 X hJ (w := r) hw dX7_firstBridge_80 ?_
            refine lv_iload_n hx hb dX7_firstBridge_83 rfl (lv_at hl 3 rfl) ?_
            refine ld_away X hJ (w := r) hw (j := f) (rfl) (by omega) dX7_firstBridge_84 ?_
            refine lv_iconst (v := 1) hx hb dX7_firstBridge_85 (by decide) ?_
            refine lv_isub hx hb dX7_firstBridge_86 ?_
            refine lv_icmp_ne (tgt := 94) hx hb dX7_firstBridge_87 (by decide) (fun c_87 => ?_) (fun c_87 => ?_)
            · skip
              refine lv_iconst (v := 0) hx hb dX7_firstBridge_94 (by decide) ?_
              refine lv_istore (lv' := [(6, .int 0), (5, .int (nI (nn (w (20 + 7 * (q - 1) + 1))))), (4, .int (nI (nn (w (20 + 7 * (q - 1)))))), (0, .ref (B + 459)), (1, .int (nI f)), (2, .int fd), (3, .int (nI (q - 1)))]) hx hb dX7_firstBridge_95 hl (by decide) rfl (fun ls hl => ?_)
              refine lv_iload hx hb dX7_firstBridge_97 (lv_at hl 0 rfl) ?_
              refine lv_if_eq (tgt := 106) hx hb dX7_firstBridge_99 (by decide) (fun c_99 => ?_) (fun c_99 => ?_)
              · skip
                refine lv_iload_n hx hb dX7_firstBridge_106 rfl (lv_at hl 5 rfl) ?_
                refine lv_istore_n (lv' := [(2, .int fd), (6, .int 0), (5, .int (nI (nn (w (20 + 7 * (q - 1) + 1))))), (4, .int (nI (nn (w (20 + 7 * (q - 1)))))), (0, .ref (B + 459)), (1, .int (nI f)), (3, .int (nI (q - 1)))]) hx hb dX7_firstBridge_107 rfl hl (by decide) rfl (fun ls hl => ?_)
                refine lv_iinc (v := nI (q - 1) - 1) (lv' := [(3, .int (nI (q - 1) - 1)), (2, .int fd), (6, .int 0), (5, .int (nI (nn (w (20 + 7 * (q - 1) + 1))))), (4, .int (nI (nn (w (20 + 7 * (q - 1)))))), (0, .ref (B + 459)), (1, .int (nI f))]) hx hb dX7_firstBridge_108 hl (k := 6) rfl (by first | exact (show nI (q - 1) + (-1) = nI (q - 1) - 1 from (Int32.sub_eq_add_neg _ _).symm) | rfl) (by decide) rfl (fun ls hl => ?_)
                refine lv_goto (tgt := 12) hx hb dX7_firstBridge_111 (by decide) ?_
                have hs : sX7_firstBridge r w f = bX7_firstBridge_12 r w f n fd (q - 1) := hs.trans (by rw [bX7_firstBridge_12, if_neg c_13, if_neg c_45, if_pos c_69, if_neg c_87])
                exact ih fd (q - 1) (by omega) (by omega) _ _ _ hJ (lv_sub hl [5, 6, 1, 0] rfl) hs
              · exact absurd c_99 (by decide)
            · skip
              refine lv_iconst (v := 1) hx hb dX7_firstBridge_90 (by decide) ?_
              refine lv_goto (tgt := 95) hx hb dX7_firstBridge_91 (by decide) ?_
              refine lv_istore (lv' := [(6, .int 1), (5, .int (nI (nn (w (20 + 7 * (q - 1) + 1))))), (4, .int (nI (nn (w (20 + 7 * (q - 1)))))), (0, .ref (B + 459)), (1, .int (nI f)), (2, .int fd), (3, .int (nI (q - 1)))]) hx hb dX7_firstBridge_95 hl (by decide) rfl (fun ls hl => ?_)
              refine lv_iload hx hb dX7_firstBridge_97 (lv_at hl 0 rfl) ?_
              refine lv_if_eq (tgt := 106) hx hb dX7_firstBridge_99 (by decide) (fun c_99 => ?_) (fun c_99 => ?_)
              · exact absurd c_99 (by decide)
              · skip
                refine lv_iload_n hx hb dX7_firstBridge_102 rfl (lv_at hl 6 rfl) ?_
                refine lv_goto (tgt := 107) hx hb dX7_firstBridge_103 (by decide) ?_
                refine lv_istore_n (lv' := [(2, .int (nI (q - 1))), (6, .int 1), (5, .int (nI (nn (w (20 + 7 * (q - 1) + 1))))), (4, .int (nI (nn (w (20 + 7 * (q - 1)))))), (0, .ref (B + 459)), (1, .int (nI f)), (3, .int (nI (q - 1)))]) hx hb dX7_firstBridge_107 rfl hl (by decide) rfl (fun ls hl => ?_)
                refine lv_iinc (v := nI (q - 1) - 1) (lv' := [(3, .int (nI (q - 1) - 1)), (2, .int (nI (q - 1))), (6, .int 1), (5, .int (nI (nn (w (20 + 7 * (q - 1) + 1))))), (4, .int (nI (nn (w (20 + 7 * (q - 1)))))), (0, .ref (B + 459)), (1, .int (nI f))]) hx hb dX7_firstBridge_108 hl (k := 6) rfl (by first | exact (show nI (q - 1) + (-1) = nI (q - 1) - 1 from (Int32.sub_eq_add_neg _ _).symm) | rfl) (by decide) rfl (fun ls hl => ?_)
                refine lv_goto (tgt := 12) hx hb dX7_firstBridge_111 (by decide) ?_
                have hs : sX7_firstBridge r w f = bX7_firstBridge_12 r w f n (nI (q - 1)) (q - 1) := hs.trans (by rw [bX7_firstBridge_12, if_neg c_13, if_neg c_45, if_pos c_69, if_pos c_87])
                exact ih (nI (q - 1)) (q - 1) (by omega) (by omega) _ _ _ hJ (lv_sub hl [5, 6, 1, 0] rfl) hs
        · skip
          refine lv_aload_n hx hb dX7_firstBridge_48 rfl (lv_at hl 2 rfl) ?_
          refine gX7_20 X hJ (w := r) hw dX7_firstBridge_49 ?_
          refine lv_iload hx hb dX7_firstBridge_52 (lv_at hl 0 rfl) ?_
          refine ld_away X hJ (w := r) hw (j := nn (w (20 + 7 * (q - 1) + 1))) (rfl) (by omega) dX7_firstBridge_54 ?_
          refine lv_aload_n hx hb dX7_firstBridge_55 rfl (lv_at hl 2 rfl) ?_
          refine gX7_20 X hJ (w := r) hw dX7_firstBridge_56 ?_
          refine lv_iload_n hx hb dX7_firstBridge_59 rfl (lv_at hl 3 rfl) ?_
          refine ld_away X hJ (w := r) hw (j := f) (rfl) (by omega) dX7_firstBridge_60 ?_
          refine lv_iconst (v := 1) hx hb dX7_firstBridge_61 (by decide) ?_
          refine lv_isub hx hb dX7_firstBridge_62 ?_
          refine lv_icmp_eq (tgt := 90) hx hb dX7_firstBridge_63 (by decide) (fun c_63 => ?_) (fun c_63 => ?_)
          · skip
            refine lv_iconst (v := 1) hx hb dX7_firstBridge_90 (by decide) ?_
            refine lv_goto (tgt := 95) hx hb dX7_firstBridge_91 (by decide) ?_
            refine lv_istore (lv' := [(6, .int 1), (5, .int (nI (nn (w (20 + 7 * (q - 1) + 1))))), (4, .int (nI (nn (w (20 + 7 * (q - 1)))))), (0, .ref (B + 459)), (1, .int (nI f)), (2, .int fd), (3, .int (nI (q - 1)))]) hx hb dX7_firstBridge_95 hl (by decide) rfl (fun ls hl => ?_)
            refine lv_iload hx hb dX7_firstBridge_97 (lv_at hl 0 rfl) ?_
            refine lv_if_eq (tgt := 106) hx hb dX7_firstBridge_99 (by decide) (fun c_99 => ?_) (fun c_99 => ?_)
            · exact absurd c_99 (by decide)
            · skip
              refine lv_iload_n hx hb dX7_firstBridge_102 rfl (lv_at hl 6 rfl) ?_
              refine lv_goto (tgt := 107) hx hb dX7_firstBridge_103 (by decide) ?_
              refine lv_istore_n (lv' := [(2, .int (nI (q - 1))), (6, .int 1), (5, .int (nI (nn (w (20 + 7 * (q - 1) + 1))))), (4, .int (nI (nn (w (20 + 7 * (q - 1)))))), (0, .ref (B + 459)), (1, .int (nI f)), (3, .int (nI (q - 1)))]) hx hb dX7_firstBridge_107 rfl hl (by decide) rfl (fun ls hl => ?_)
              refine lv_iinc (v := nI (q - 1) - 1) (lv' := [(3, .int (nI (q - 1) - 1)), (2, .int (nI (q - 1))), (6, .int 1), (5, .int (nI (nn (w (20 + 7 * (q - 1) + 1))))), (4, .int (nI (nn (w (20 + 7 * (q - 1)))))), (0, .ref (B + 459)), (1, .int (nI f))]) hx hb dX7_firstBridge_108 hl (k := 6) rfl (by first | exact (show nI (q - 1) + (-1) = nI (q - 1) - 1 from (Int32.sub_eq_add_neg _ _).symm) | rfl) (by decide) rfl (fun ls hl => ?_)
              refine lv_goto (tgt := 12) hx hb dX7_firstBridge_111 (by decide) ?_
              have hs : sX7_firstBridge r w f = bX7_firstBridge_12 r w f n (nI (q - 1)) (q - 1) := hs.trans (by rw [bX7_firstBridge_12, if_neg c_13, if_pos c_45, if_pos c_63])
              exact ih (nI (q - 1)) (q - 1) (by omega) (by omega) _ _ _ hJ (lv_sub hl [5, 6, 1, 0] rfl) hs
          · skip
            refine lv_iload hx hb dX7_firstBridge_66 (lv_at hl 0 rfl) ?_
            refine lv_iload_n hx hb dX7_firstBridge_68 rfl (lv_at hl 3 rfl) ?_
            refine lv_icmp_ne (tgt := 94) hx hb dX7_firstBridge_69 (by decide) (fun c_69 => ?_) (fun c_69 => ?_)
            · skip
              refine lv_iconst (v := 0) hx hb dX7_firstBridge_94 (by decide) ?_
              refine lv_istore (lv' := [(6, .int 0), (5, .int (nI (nn (w (20 + 7 * (q - 1) + 1))))), (4, .int (nI (nn (w (20 + 7 * (q - 1)))))), (0, .ref (B + 459)), (1, .int (nI f)), (2, .int fd), (3, .int (nI (q - 1)))]) hx hb dX7_firstBridge_95 hl (by decide) rfl (fun ls hl => ?_)
              refine lv_iload hx hb dX7_firstBridge_97 (lv_at hl 0 rfl) ?_
              refine lv_if_eq (tgt := 106) hx hb dX7_firstBridge_99 (by decide) (fun c_99 => ?_) (fun c_99 => ?_)
              · skip
                refine lv_iload_n hx hb dX7_firstBridge_106 rfl (lv_at hl 5 rfl) ?_
                refine lv_istore_n (lv' := [(2, .int fd), (6, .int 0), (5, .int (nI (nn (w (20 + 7 * (q - 1) + 1))))), (4, .int (nI (nn (w (20 + 7 * (q - 1)))))), (0, .ref (B + 459)), (1, .int (nI f)), (3, .int (nI (q - 1)))]) hx hb dX7_firstBridge_107 rfl hl (by decide) rfl (fun ls hl => ?_)
                refine lv_iinc (v := nI (q - 1) - 1) (lv' := [(3, .int (nI (q - 1) - 1)), (2, .int fd), (6, .int 0), (5, .int (nI (nn (w (20 + 7 * (q - 1) + 1))))), (4, .int (nI (nn (w (20 + 7 * (q - 1)))))), (0, .ref (B + 459)), (1, .int (nI f))]) hx hb dX7_firstBridge_108 hl (k := 6) rfl (by first | exact (show nI (q - 1) + (-1) = nI (q - 1) - 1 from (Int32.sub_eq_add_neg _ _).symm) | rfl) (by decide) rfl (fun ls hl => ?_)
                refine lv_goto (tgt := 12) hx hb dX7_firstBridge_111 (by decide) ?_
                have hs : sX7_firstBridge r w f = bX7_firstBridge_12 r w f n fd (q - 1) := hs.trans (by rw [bX7_firstBridge_12, if_neg c_13, if_pos c_45, if_neg c_63, if_neg c_69])
                exact ih fd (q - 1) (by omega) (by omega) _ _ _ hJ (lv_sub hl [5, 6, 1, 0] rfl) hs
              · exact absurd c_99 (by decide)
            · skip
              refine lv_aload_n hx hb dX7_firstBridge_72 rfl (lv_at hl 2 rfl) ?_
              refine gX7_20 X hJ (w := r) hw dX7_firstBridge_73 ?_
              refine lv_iload hx hb dX7_firstBridge_76 (lv_at hl 1 rfl) ?_
              refine ld_away X hJ (w := r) hw (j := nn (w (20 + 7 * (q - 1)))) (rfl) (by omega) dX7_firstBridge_78 ?_
              refine lv_aload_n hx hb dX7_firstBridge_79 rfl (lv_at hl 2 rfl) ?_
              refine gX7_20 X hJ (w := r) hw dX7_firstBridge_80 ?_
              refine lv_iload_n hx hb dX7_firstBridge_83 rfl (lv_at hl 3 rfl) ?_
              refine ld_away X hJ (w := r) hw (j := f) (rfl) (by omega) dX7_firstBridge_84 ?_
              refine lv_iconst (v := 1) hx hb dX7_firstBridge_85 (by decide) ?_
              refine lv_isub hx hb dX7_firstBridge_86 ?_
              refine lv_icmp_ne (tgt := 94) hx hb dX7_firstBridge_87 (by decide) (fun c_87 => ?_) (fun c_87 => ?_)
              · skip
                refine lv_iconst (v := 0) hx hb dX7_firstBridge_94 (by decide) ?_
                refine lv_istore (lv' := [(6, .int 0), (5, .int (nI (nn (w (20 + 7 * (q - 1) + 1))))), (4, .int (nI (nn (w (20 + 7 * (q - 1)))))), (0, .ref (B + 459)), (1, .int (nI f)), (2, .int fd), (3, .int (nI (q - 1)))]) hx hb dX7_firstBridge_95 hl (by decide) rfl (fun ls hl => ?_)
                refine lv_iload hx hb dX7_firstBridge_97 (lv_at hl 0 rfl) ?_
                refine lv_if_eq (tgt := 106) hx hb dX7_firstBridge_99 (by decide) (fun c_99 => ?_) (fun c_99 => ?_)
                · skip
                  refine lv_iload_n hx hb dX7_firstBridge_106 rfl (lv_at hl 5 rfl) ?_
                  refine lv_istore_n (lv' := [(2, .int fd), (6, .int 0), (5, .int (nI (nn (w (20 + 7 * (q - 1) + 1))))), (4, .int (nI (nn (w (20 + 7 * (q - 1)))))), (0, .ref (B + 459)), (1, .int (nI f)), (3, .int (nI (q - 1)))]) hx hb dX7_firstBridge_107 rfl hl (by decide) rfl (fun ls hl => ?_)
                  refine lv_iinc (v := nI (q - 1) - 1) (lv' := [(3, .int (nI (q - 1) - 1)), (2, .int fd), (6, .int 0), (5, .int (nI (nn (w (20 + 7 * (q - 1) + 1))))), (4, .int (nI (nn (w (20 + 7 * (q - 1)))))), (0, .ref (B + 459)), (1, .int (nI f))]) hx hb dX7_firstBridge_108 hl (k := 6) rfl (by first | exact (show nI (q - 1) + (-1) = nI (q - 1) - 1 from (Int32.sub_eq_add_neg _ _).symm) | rfl) (by decide) rfl (fun ls hl => ?_)
                  refine lv_goto (tgt := 12) hx hb dX7_firstBridge_111 (by decide) ?_
                  have hs : sX7_firstBridge r w f = bX7_firstBridge_12 r w f n fd (q - 1) := hs.trans (by rw [bX7_firstBridge_12, if_neg c_13, if_pos c_45, if_neg c_63, if_pos c_69, if_neg c_87])
                  exact ih fd (q - 1) (by omega) (by omega) _ _ _ hJ (lv_sub hl [5, 6, 1, 0] rfl) hs
                · exact absurd c_99 (by decide)
              · skip
                refine lv_iconst (v := 1) hx hb dX7_firstBridge_90 (by decide) ?_
                refine lv_goto (tgt := 95) hx hb dX7_firstBridge_91 (by decide) ?_
                refine lv_istore (lv' := [(6, .int 1), (5, .int (nI (nn (w (20 + 7 * (q - 1) + 1))))), (4, .int (nI (nn (w (20 + 7 * (q - 1)))))), (0, .ref (B + 459)), (1, .int (nI f)), (2, .int fd), (3, .int (nI (q - 1)))]) hx hb dX7_firstBridge_95 hl (by decide) rfl (fun ls hl => ?_)
                refine lv_iload hx hb dX7_firstBridge_97 (lv_at hl 0 rfl) ?_
                refine lv_if_eq (tgt := 106) hx hb dX7_firstBridge_99 (by decide) (fun c_99 => ?_) (fun c_99 => ?_)
                · exact absurd c_99 (by decide)
                · skip
                  refine lv_iload_n hx hb dX7_firstBridge_102 rfl (lv_at hl 6 rfl) ?_
                  refine lv_goto (tgt := 107) hx hb dX7_firstBridge_103 (by decide) ?_
                  refine lv_istore_n (lv' := [(2, .int (nI (q - 1))), (6, .int 1), (5, .int (nI (nn (w (20 + 7 * (q - 1) + 1))))), (4, .int (nI (nn (w (20 + 7 * (q - 1)))))), (0, .ref (B + 459)), (1, .int (nI f)), (3, .int (nI (q - 1)))]) hx hb dX7_firstBridge_107 rfl hl (by decide) rfl (fun ls hl => ?_)
                  refine lv_iinc (v := nI (q - 1) - 1) (lv' := [(3, .int (nI (q - 1) - 1)), (2, .int (nI (q - 1))), (6, .int 1), (5, .int (nI (nn (w (20 + 7 * (q - 1) + 1))))), (4, .int (nI (nn (w (20 + 7 * (q - 1)))))), (0, .ref (B + 459)), (1, .int (nI f))]) hx hb dX7_firstBridge_108 hl (k := 6) rfl (by first | exact (show nI (q - 1) + (-1) = nI (q - 1) - 1 from (Int32.sub_eq_add_neg _ _).symm) | rfl) (by decide) rfl (fun ls hl => ?_)
                  refine lv_goto (tgt := 12) hx hb dX7_firstBridge_111 (by decide) ?_
                  have hs : sX7_firstBridge r w f = bX7_firstBridge_12 r w f n (nI (q - 1)) (q - 1) := hs.trans (by rw [bX7_firstBridge_12, if_neg c_13, if_pos c_45, if_neg c_63, if_pos c_69, if_pos c_87])
                  exact ih (nI (q - 1)) (q - 1) (by omega) (by omega) _ _ _ hJ (lv_sub hl [5, 6, 1, 0] rfl) hs
  refine lv_bipush (v := (-6)) hx hb dX7_firstBridge_0 (by decide) ?_
  refine lv_istore_n (lv' := [(2, .int (-6)), (0, .ref (B + 459)), (1, .int (nI f))]) hx hb dX7_firstBridge_2 rfl hl (by decide) rfl (fun ls hl => ?_)
  refine lv_aload_n hx hb dX7_firstBridge_3 rfl (lv_at hl 1 rfl) ?_
  refine gX7_7 X hJ (w := r) hw dX7_firstBridge_4 ?_
  refine lv_iconst (v := 5) hx hb dX7_firstBridge_7 (by decide) ?_
  refine ld_s X hJ (t := 0) (w := w) (by omega) hw0 (j := 5) (by decide) (by omega) dX7_firstBridge_8 ?_
  refine cvt (y := nI (nn (w (5)))) (hrn.1.2.1.eq) ?_
  refine lv_iconst (v := 1) hx hb dX7_firstBridge_9 (by decide) ?_
  refine lv_isub hx hb dX7_firstBridge_10 ?_
  refine lv_istore_n (lv' := [(3, .int ((nI (nn (w (5)))) - 1)), (2, .int (-6)), (0, .ref (B + 459)), (1, .int (nI f))]) hx hb dX7_firstBridge_11 rfl hl (by decide) rfl (fun ls hl => ?_)
  have hs : sX7_firstBridge r w f = bX7_firstBridge_12 r w f 13 (-6) (nn (w (5))) := by unfold sX7_firstBridge; rfl
  exact bk_12 13 (-6) (nn (w (5))) (by have := hrn.1.2.1.le; omega) (hrn.1.2.1.le) _ _ _ hJ (lv_sub hl [2, 3, 1, 0] rfl) hs

def sX7_route (r : Row) (w : Row) (x : Int32) (y : Int32) (z : Int32) : Int32 × Row := if sX7_isTown x = 0 then (((-1), r)) else (if sX7_isTown y = 0 then (((-1), r)) else (if sX7_in z.toInt64 0 1 = 0 then (((-2), r)) else (if (sX7_measures r w y) (200 + (nn x)) = 8 then (((-6), (sX7_measures r w y))) else (if z = 0 then (((sX7_measures r w y) (200 + (nn x)), (sX7_measures r w y))) else ((sX7_firstBridge (sX7_measures r w y) w (nn x), (sX7_measures r w y)))))))
set_option maxHeartbeats 4000000 in
set_option maxRecDepth 100000 in
theorem mX7_route (l : Launch) (E : EE) (B : Nat) (g : GS) (x : Int32) (y : Int32) (z : Int32) (r : Row) (w : Row)  (hw0 : g.2.2.1 0 = w) (hrn : Rn w) : CG l yX7_route cX7_route 4 (some .int) 2 47 E B [.ref (B + 459), .int x, .int y, .int z] (upR g r) (some (.int (sX7_route r w x y z).1)) (upR g ((sX7_route r w x y z).2)) := by
  refine mkI (own := RX7) (ty := .int) rfl (by decide) rfl (rfl) (Nat.le_of_ble_eq_true rfl) (fun P_ e_ s_ m_ a_ below meth cd Q X fin ls hl hJ => ?_)
  have hx := X.1
  have hb := X.2.1
  have hl : lv_has ls 4 [(0, .ref (B + 459)), (1, .int x), (2, .int y), (3, .int z)] := hl
  refine lv_iload_n hx hb dX7_route_0 rfl (lv_at hl 1 rfl) ?_
  refine kX7_85 X hJ (mX7_isTown l E B _ x) rfl hl.1 ⟨Nat.le_of_ble_eq_true rfl, Nat.le_of_ble_eq_true rfl⟩ ⟨Nat.le_refl _, Nat.le_refl _⟩ (rest := []) rfl (Nat.le_of_ble_eq_true rfl) dX7_route_1 (fun H locs hJ => ?_)
  refine lv_if_eq (tgt := 14) hx hb dX7_route_4 (by decide) (fun c_4 => ?_) (fun c_4 => ?_)
  · skip
    refine lv_iconst (v := (-1)) hx hb dX7_route_14 (by decide) ?_
    have hs : sX7_route r w x y z = ((-1), r) := by unfold sX7_route; rw [if_pos c_4]
    exact fin (by rw [hs]; dsimp only; exact hJ) (by rw [hs]) dX7_route_15
  · skip
    refine lv_iload_n hx hb dX7_route_7 rfl (lv_at hl 2 rfl) ?_
    refine kX7_85 X hJ (mX7_isTown l E B _ y) rfl hl.1 ⟨Nat.le_of_ble_eq_true rfl, Nat.le_of_ble_eq_true rfl⟩ ⟨Nat.le_refl _, Nat.le_refl _⟩ (rest := []) rfl (Nat.le_of_ble_eq_true rfl) dX7_route_8 (fun H locs hJ => ?_)
    refine lv_if_ne (tgt := 16) hx hb dX7_route_11 (by decide) (fun c_11 => ?_) (fun c_11 => ?_)
    · skip
      refine lv_iload_n hx hb dX7_route_16 rfl (lv_at hl 3 rfl) ?_
      refine lv_i2l hx hb dX7_route_17 rfl ?_
      refine lv_lconst (v := 0) hx hb dX7_route_18 (by decide) ?_
      refine lv_lconst (v := 1) hx hb dX7_route_19 (by decide) ?_
      refine kX7_81 X hJ (mX7_in l E B _ z.toInt64 0 1) rfl hl.1 ⟨Nat.le_of_ble_eq_true rfl, Nat.le_of_ble_eq_true rfl⟩ ⟨Nat.le_refl _, Nat.le_refl _⟩ (rest := []) rfl (Nat.le_of_ble_eq_true rfl) dX7_route_20 (fun H locs hJ => ?_)
      refine lv_if_ne (tgt := 29) hx hb dX7_route_23 (by decide) (fun c_23 => ?_) (fun c_23 => ?_)
      · skip
        have hx8 := (isTown_of c_4).2
        have hl : lv_has ls 4 [(0, .ref (B + 459)), (1, .int (nI (nn x))), (2, .int y), (3, .int z)] := by rw [← show x = nI (nn x) from (isTown_of c_4).1]; exact hl
        refine lv_aload_n hx hb dX7_route_29 rfl (lv_at hl 0 rfl) ?_
        refine lv_iload_n hx hb dX7_route_30 rfl (lv_at hl 2 rfl) ?_
        refine kX7_181 X hJ (mX7_measures l E B _ y r w hw0 (hrn)) rfl (by omega) (at_M rfl) hl.1 ⟨Nat.le_of_ble_eq_true rfl, Nat.le_of_ble_eq_true rfl⟩ ⟨Nat.le_refl _, Nat.le_refl _⟩ (rest := []) rfl (Nat.le_of_ble_eq_true rfl) dX7_route_31 (fun H locs hJ => ?_)
        refine lv_aload_n hx hb dX7_route_34 rfl (lv_at hl 0 rfl) ?_
        refine gX7_20 X hJ (w := (sX7_measures r w y)) rfl dX7_route_35 ?_
        refine lv_iload_n hx hb dX7_route_38 rfl (lv_at hl 1 rfl) ?_
        refine ld_away X hJ (w := (sX7_measures r w y)) rfl (j := nn x) (rfl) (by omega) dX7_route_39 ?_
        refine lv_bipush (v := 8) hx hb dX7_route_40 (by decide) ?_
        refine lv_icmp_ne (tgt := 50) hx hb dX7_route_42 (by decide) (fun c_42 => ?_) (fun c_42 => ?_)
        · skip
          refine lv_iload_n hx hb dX7_route_50 rfl (lv_at hl 3 rfl) ?_
          refine lv_if_ne (tgt := 63) hx hb dX7_route_51 (by decide) (fun c_51 => ?_) (fun c_51 => ?_)
          · skip
            refine lv_aload_n hx hb dX7_route_63 rfl (lv_at hl 0 rfl) ?_
            refine lv_iload_n hx hb dX7_route_64 rfl (lv_at hl 1 rfl) ?_
            refine kX7_184 X hJ (mX7_firstBridge l E B _ (nn x) (sX7_measures r w y) w (by omega) rfl hw0 (hrn)) rfl (by omega) (at_M rfl) hl.1 ⟨Nat.le_of_ble_eq_true rfl, Nat.le_of_ble_eq_true rfl⟩ ⟨Nat.le_refl _, Nat.le_refl _⟩ (rest := []) rfl (Nat.le_of_ble_eq_true rfl) dX7_route_65 (fun H locs hJ => ?_)
            have hs : sX7_route r w x y z = (sX7_firstBridge (sX7_measures r w y) w (nn x), (sX7_measures r w y)) := by unfold sX7_route; rw [if_neg c_4, if_neg c_11, if_neg c_23, if_neg c_42, if_neg c_51]
            exact fin (by rw [hs]; dsimp only; exact hJ) (by rw [hs]) dX7_route_68
          · skip
            refine lv_aload_n hx hb dX7_route_54 rfl (lv_at hl 0 rfl) ?_
            refine gX7_20 X hJ (w := (sX7_measures r w y)) rfl dX7_route_55 ?_
            refine lv_iload_n hx hb dX7_route_58 rfl (lv_at hl 1 rfl) ?_
            refine ld_away X hJ (w := (sX7_measures r w y)) rfl (j := nn x) (rfl) (by omega) dX7_route_59 ?_
            refine lv_goto (tgt := 68) hx hb dX7_route_60 (by decide) ?_
            have hs : sX7_route r w x y z = ((sX7_measures r w y) (200 + (nn x)), (sX7_measures r w y)) := by unfold sX7_route; rw [if_neg c_4, if_neg c_11, if_neg c_23, if_neg c_42, if_pos c_51]
            exact fin (by rw [hs]; dsimp only; exact hJ) (by rw [hs]) dX7_route_68
        · skip
          refine lv_bipush (v := (-6)) hx hb dX7_route_45 (by decide) ?_
          refine lv_goto (tgt := 68) hx hb dX7_route_47 (by decide) ?_
          have hs : sX7_route r w x y z = ((-6), (sX7_measures r w y)) := by unfold sX7_route; rw [if_neg c_4, if_neg c_11, if_neg c_23, if_pos c_42]
          exact fin (by rw [hs]; dsimp only; exact hJ) (by rw [hs]) dX7_route_68
      · skip
        refine lv_bipush (v := (-2)) hx hb dX7_route_26 (by decide) ?_
        have hs : sX7_route r w x y z = ((-2), r) := by unfold sX7_route; rw [if_neg c_4, if_neg c_11, if_pos c_23]
        exact fin (by rw [hs]; dsimp only; exact hJ) (by rw [hs]) dX7_route_28
    · skip
      refine lv_iconst (v := (-1)) hx hb dX7_route_14 (by decide) ?_
      have hs : sX7_route r w x y z = ((-1), r) := by unfold sX7_route; rw [if_neg c_4, if_pos c_11]
      exact fin (by rw [hs]; dsimp only; exact hJ) (by rw [hs]) dX7_route_15

