def bX3_readOrder_37  (w37 : Row) : Int32 × Row := if w37 5 = 98 then (if (sX3_readDigitPair w37).1 = 0 then ((0, (sX3_readDigitPair w37).2)) else (if (sX3_readSign ((sX3_readDigitPair w37).2) 42).1 = 0 then ((0, (sX3_readSign ((sX3_readDigitPair w37).2) 42).2)) else (if (sX3_readThird ((sX3_readSign ((sX3_readDigitPair w37).2) 42).2)).1 = 0 then ((0, (sX3_readThird ((sX3_readSign ((sX3_readDigitPair w37).2) 42).2)).2)) else ((1, (sX3_readThird ((sX3_readSign ((sX3_readDigitPair w37).2) 42).2)).2))))) else if w37 5 = 99 then (if (sX3_readDigit w37).1 = 0 then ((0, (sX3_readDigit w37).2)) else (if (sX3_readSign ((sX3_readDigit w37).2) 42).1 = 0 then ((0, (sX3_readSign ((sX3_readDigit w37).2) 42).2)) else (if (sX3_readSecond ((sX3_readSign ((sX3_readDigit w37).2) 42).2)).1 = 0 then ((0, (sX3_readSecond ((sX3_readSign ((sX3_readDigit w37).2) 42).2)).2)) else ((1, (sX3_readSecond ((sX3_readSign ((sX3_readDigit w37).2) 42).2)).2))))) else if w37 5 = 103 then (if (sX3_readDigit w37).1 = 0 then ((0, (sX3_readDigit w37).2)) else (if (sX3_readSign ((sX3_readDigit w37).2) 58).1 = 0 then ((0, (sX3_readSign ((sX3_readDigit w37).2) 58).2)) else (if (sX3_readSecond ((sX3_readSign ((sX3_readDigit w37).2) 58).2)).1 = 0 then ((0, (sX3_readSecond ((sX3_readSign ((sX3_readDigit w37).2) 58).2)).2)) else (if (sX3_readSign ((sX3_readSecond ((sX3_readSign ((sX3_readDigit w37).2) 58).2)).2) 61).1 = 0 then ((0, (sX3_readSign ((sX3_readSecond ((sX3_readSign ((sX3_readDigit w37).2) 58).2)).2) 61).2)) else (if (sX3_readThird ((sX3_readSign ((sX3_readSecond ((sX3_readSign ((sX3_readDigit w37).2) 58).2)).2) 61).2)).1 = 0 then ((0, (sX3_readThird ((sX3_readSign ((sX3_readSecond ((sX3_readSign ((sX3_readDigit w37).2) 58).2)).2) 61).2)).2)) else ((1, (sX3_readThird ((sX3_readSign ((sX3_readSecond ((sX3_readSign ((sX3_readDigit w37).2) 58).2)).2) 61).2)).2))))))) else if w37 5 = 104 then (if (sX3_readDigit w37).1 = 0 then ((0, (sX3_readDigit w37).2)) else (if (sX3_readSign ((sX3_readDigit w37).2) 58).1 = 0 then ((0, (sX3_readSign ((sX3_readDigit w37).2) 58).2)) else (if (sX3_readSecond ((sX3_readSign ((sX3_readDigit w37).2) 58).2)).1 = 0 then ((0, (sX3_readSecond ((sX3_readSign ((sX3_readDigit w37).2) 58).2)).2)) else ((1, (sX3_readSecond ((sX3_readSign ((sX3_readDigit w37).2) 58).2)).2))))) else if w37 5 = 108 then (((sX3_readDigit w37).1, (sX3_readDigit w37).2)) else (if (upd ((sX3_readNumber w37).2) (6) ((sX3_readNumber w37).1)) 6 = (-6) then ((0, upd ((sX3_readNumber w37).2) (6) ((sX3_readNumber w37).1))) else ((1, upd ((sX3_readNumber w37).2) (6) ((sX3_readNumber w37).1))))
def sX3_readOrder (u : Row) : Int32 × Row := if sX3_isKind ((upd u (5) (sX4_codeAt u (u 4))) 5) = 0 then ((0, upd u (5) (sX4_codeAt u (u 4)))) else (bX3_readOrder_37  (upd (upd u (5) (sX4_codeAt u (u 4))) (4) (((upd u (5) (sX4_codeAt u (u 4))) 4) + 1)))
theorem b01_bX3_readOrder_37 {w37 : Row}  : b01 (bX3_readOrder_37 w37).1 := by
  unfold bX3_readOrder_37
  exact b01_i2 (b01_i2 (Or.inl rfl) (b01_i2 (Or.inl rfl) (b01_i2 (Or.inl rfl) (Or.inr rfl)))) (b01_i2 (b01_i2 (Or.inl rfl) (b01_i2 (Or.inl rfl) (b01_i2 (Or.inl rfl) (Or.inr rfl)))) (b01_i2 (b01_i2 (Or.inl rfl) (b01_i2 (Or.inl rfl) (b01_i2 (Or.inl rfl) (b01_i2 (Or.inl rfl) (b01_i2 (Or.inl rfl) (Or.inr rfl)))))) (b01_i2 (b01_i2 (Or.inl rfl) (b01_i2 (Or.inl rfl) (b01_i2 (Or.inl rfl) (Or.inr rfl)))) (b01_i2 (b01_readDigit) (b01_i2 (Or.inl rfl) (Or.inr rfl))))))
theorem b01_sX3_readOrder {u : Row}  : b01 (sX3_readOrder u).1 := by
  unfold sX3_readOrder
  exact b01_i2 (Or.inl rfl) (b01_bX3_readOrder_37)
set_option maxHeartbeats 4000000 in
set_option maxRecDepth 100000 in
theorem mX3_readOrder (l : Launch) (E : EE) (B : Nat) (g : GS)  (u : Row) (hpd : Pd u) : CG l yX3_readOrder cX3_readOrder 1 (some .boolean) 4 85 E B [.ref (B + 458)] (upC g u) (some (.int (sX3_readOrder u).1)) (upC g ((sX3_readOrder u).2)) := by
  refine mkI (own := RX3) (ty := .boolean) rfl (by decide) rfl (b01_sX3_readOrder.nar) (Nat.le_of_ble_eq_true rfl) (fun P_ e_ s_ m_ a_ below meth cd Q X fin ls hl hJ => ?_)
  have hx := X.1
  have hb := X.2.1
  have hl : lv_has ls 1 [(0, .ref (B + 458))] := hl
  have bk_37 : ∀  (w37 : Row), (Pd w37) → ∀ (H : Heap) (locs : List Loc) (ls : Array Slot), JG E B s_ (upC g w37) H locs → lv_has ls 1 [(0, .ref (B + 458))] → sX3_readOrder u = bX3_readOrder_37  w37 → W P_ l e_ (rmm 4 85 0 0) s_ m_ a_ below meth cd H locs 0 0 Q (F0 m_ 37 ls []) := by
    intro w37 hpd H locs ls hJ hl hs
    refine lv_aload_n hx hb dX3_readOrder_37 rfl (lv_at hl 0 rfl) ?_
    refine gX3_39 X hJ (w := w37) rfl dX3_readOrder_38 ?_
    by_cases c_41_98 : w37 5 = 98
    · rw [c_41_98]
      refine lv_tableIn (tgt := 100) hx hb dX3_readOrder_41 (by decide) (by decide) (off := 59) (by decide) (by decide) ?_
      refine lv_aload_n hx hb dX3_readOrder_100 rfl (lv_at hl 0 rfl) ?_
      refine kX3_45 X hJ (mX3_readDigitPair l E B _ w37 (hpd)) rfl (by omega) (at_O rfl) hl.1 ⟨Nat.le_of_ble_eq_true rfl, Nat.le_of_ble_eq_true rfl⟩ ⟨Nat.le_refl _, Nat.le_refl _⟩ (rest := []) rfl (Nat.le_of_ble_eq_true rfl) dX3_readOrder_101 (fun H locs hJ => ?_)
      refine lv_if_eq (tgt := 127) hx hb dX3_readOrder_104 (by decide) (fun c_104 => ?_) (fun c_104 => ?_)
      · skip
        refine lv_iconst (v := 0) hx hb dX3_readOrder_127 (by decide) ?_
        have hs : sX3_readOrder u = (0, (sX3_readDigitPair w37).2) := hs.trans (by unfold bX3_readOrder_37; rw [if_pos c_41_98, if_pos c_104])
        exact fin (by rw [hs]; dsimp only; exact hJ) (by rw [hs]) dX3_readOrder_128
      · skip
        refine lv_aload_n hx hb dX3_readOrder_107 rfl (lv_at hl 0 rfl) ?_
        refine lv_bipush (v := 42) hx hb dX3_readOrder_108 (by decide) ?_
        refine kX3_31 X hJ (mX3_readSign l E B _ 42 ((sX3_readDigitPair w37).2) (Pd_sX3_readDigitPair (hpd))) rfl (by omega) (at_O rfl) hl.1 ⟨Nat.le_of_ble_eq_true rfl, Nat.le_of_ble_eq_true rfl⟩ ⟨Nat.le_refl _, Nat.le_refl _⟩ (rest := []) rfl (Nat.le_of_ble_eq_true rfl) dX3_readOrder_110 (fun H locs hJ => ?_)
        refine lv_if_eq (tgt := 127) hx hb dX3_readOrder_113 (by decide) (fun c_113 => ?_) (fun c_113 => ?_)
        · skip
          refine lv_iconst (v := 0) hx hb dX3_readOrder_127 (by decide) ?_
          have hs : sX3_readOrder u = (0, (sX3_readSign ((sX3_readDigitPair w37).2) 42).2) := hs.trans (by unfold bX3_readOrder_37; rw [if_pos c_41_98, if_neg c_104, if_pos c_113])
          exact fin (by rw [hs]; dsimp only; exact hJ) (by rw [hs]) dX3_readOrder_128
        · skip
          refine lv_aload_n hx hb dX3_readOrder_116 rfl (lv_at hl 0 rfl) ?_
          refine kX3_48 X hJ (mX3_readThird l E B _ ((sX3_readSign ((sX3_readDigitPair w37).2) 42).2) (Pd_sX3_readSign (Pd_sX3_readDigitPair (hpd)))) rfl (by omega) (at_O rfl) hl.1 ⟨Nat.le_of_ble_eq_true rfl, Nat.le_of_ble_eq_true rfl⟩ ⟨Nat.le_refl _, Nat.le_refl _⟩ (rest := []) rfl (Nat.le_of_ble_eq_true rfl) dX3_readOrder_117 (fun H locs hJ => ?_)
          refine lv_if_eq (tgt := 127) hx hb dX3_readOrder_120 (by decide) (fun c_120 => ?_) (fun c_120 => ?_)
          · skip
            refine lv_iconst (v := 0) hx hb dX3_readOrder_127 (by decide) ?_
            have hs : sX3_readOrder u = (0, (sX3_readThird ((sX3_readSign ((sX3_readDigitPair w37).2) 42).2)).2) := hs.trans (by unfold bX3_readOrder_37; rw [if_pos c_41_98, if_neg c_104, if_neg c_113, if_pos c_120])
            exact fin (by rw [hs]; dsimp only; exact hJ) (by rw [hs]) dX3_readOrder_128
          · skip
            refine lv_iconst (v := 1) hx hb dX3_readOrder_123 (by decide) ?_
            refine lv_goto (tgt := 128) hx hb dX3_readOrder_124 (by decide) ?_
            have hs : sX3_readOrder u = (1, (sX3_readThird ((sX3_readSign ((sX3_readDigitPair w37).2) 42).2)).2) := hs.trans (by unfold bX3_readOrder_37; rw [if_pos c_41_98, if_neg c_104, if_neg c_113, if_neg c_120])
            exact fin (by rw [hs]; dsimp only; exact hJ) (by rw [hs]) dX3_readOrder_128
    by_cases c_41_99 : w37 5 = 99
    · rw [c_41_99]
      refine lv_tableIn (tgt := 129) hx hb dX3_readOrder_41 (by decide) (by decide) (off := 88) (by decide) (by decide) ?_
      refine lv_aload_n hx hb dX3_readOrder_129 rfl (lv_at hl 0 rfl) ?_
      refine kX3_51 X hJ (mX3_readDigit l E B _ w37 (hpd)) rfl (by omega) (at_O rfl) hl.1 ⟨Nat.le_of_ble_eq_true rfl, Nat.le_of_ble_eq_true rfl⟩ ⟨Nat.le_refl _, Nat.le_refl _⟩ (rest := []) rfl (Nat.le_of_ble_eq_true rfl) dX3_readOrder_130 (fun H locs hJ => ?_)
      refine lv_if_eq (tgt := 156) hx hb dX3_readOrder_133 (by decide) (fun c_133 => ?_) (fun c_133 => ?_)
      · skip
        refine lv_iconst (v := 0) hx hb dX3_readOrder_156 (by decide) ?_
        have hs : sX3_readOrder u = (0, (sX3_readDigit w37).2) := hs.trans (by unfold bX3_readOrder_37; rw [if_neg c_41_98, if_pos c_41_99, if_pos c_133])
        exact fin (by rw [hs]; dsimp only; exact hJ) (by rw [hs]) dX3_readOrder_157
      · skip
        refine lv_aload_n hx hb dX3_readOrder_136 rfl (lv_at hl 0 rfl) ?_
        refine lv_bipush (v := 42) hx hb dX3_readOrder_137 (by decide) ?_
        refine kX3_31 X hJ (mX3_readSign l E B _ 42 ((sX3_readDigit w37).2) (Pd_sX3_readDigit (hpd))) rfl (by omega) (at_O rfl) hl.1 ⟨Nat.le_of_ble_eq_true rfl, Nat.le_of_ble_eq_true rfl⟩ ⟨Nat.le_refl _, Nat.le_refl _⟩ (rest := []) rfl (Nat.le_of_ble_eq_true rfl) dX3_readOrder_139 (fun H locs hJ => ?_)
        refine lv_if_eq (tgt := 156) hx hb dX3_readOrder_142 (by decide) (fun c_142 => ?_) (fun c_142 => ?_)
        · skip
          refine lv_iconst (v := 0) hx hb dX3_readOrder_156 (by decide) ?_
          have hs : sX3_readOrder u = (0, (sX3_readSign ((sX3_readDigit w37).2) 42).2) := hs.trans (by unfold bX3_readOrder_37; rw [if_neg c_41_98, if_pos c_41_99, if_neg c_133, if_pos c_142])
          exact fin (by rw [hs]; dsimp only; exact hJ) (by rw [hs]) dX3_readOrder_157
        · skip
          refine lv_aload_n hx hb dX3_readOrder_145 rfl (lv_at hl 0 rfl) ?_
          refine kX3_54 X hJ (mX3_readSecond l E B _ ((sX3_readSign ((sX3_readDigit w37).2) 42).2) (Pd_sX3_readSign (Pd_sX3_readDigit (hpd)))) rfl (by omega) (at_O rfl) hl.1 ⟨Nat.le_of_ble_eq_true rfl, Nat.le_of_ble_eq_true rfl⟩ ⟨Nat.le_refl _, Nat.le_refl _⟩ (rest := []) rfl (Nat.le_of_ble_eq_true rfl) dX3_readOrder_146 (fun H locs hJ => ?_)
          refine lv_if_eq (tgt := 156) hx hb dX3_readOrder_149 (by decide) (fun c_149 => ?_) (fun c_149 => ?_)
          · skip
            refine lv_iconst (v := 0) hx hb dX3_readOrder_156 (by decide) ?_
            have hs : sX3_readOrder u = (0, (sX3_readSecond ((sX3_readSign ((sX3_readDigit w37).2) 42).2)).2) := hs.trans (by unfold bX3_readOrder_37; rw [if_neg c_41_98, if_pos c_41_99, if_neg c_133, if_neg c_142, if_pos c_149])
            exact fin (by rw [hs]; dsimp only; exact hJ) (by rw [hs]) dX3_readOrder_157
          · skip
            refine lv_iconst (v := 1) hx hb dX3_readOrder_152 (by decide) ?_
            refine lv_goto (tgt := 157) hx hb dX3_readOrder_153 (by decide) ?_
            have hs : sX3_readOrder u = (1, (sX3_readSecond ((sX3_readSign ((sX3_readDigit w37).2) 42).2)).2) := hs.trans (by unfold bX3_readOrder_37; rw [if_neg c_41_98, if_pos c_41_99, if_neg c_133, if_neg c_142, if_neg c_149])
            exact fin (by rw [hs]; dsimp only; exact hJ) (by rw [hs]) dX3_readOrder_157
    by_cases c_41_103 : w37 5 = 103
    · rw [c_41_103]
      refine lv_tableIn (tgt := 158) hx hb dX3_readOrder_41 (by decide) (by decide) (off := 117) (by decide) (by decide) ?_
      refine lv_aload_n hx hb dX3_readOrder_158 rfl (lv_at hl 0 rfl) ?_
      refine kX3_51 X hJ (mX3_readDigit l E B _ w37 (hpd)) rfl (by omega) (at_O rfl) hl.1 ⟨Nat.le_of_ble_eq_true rfl, Nat.le_of_ble_eq_true rfl⟩ ⟨Nat.le_refl _, Nat.le_refl _⟩ (rest := []) rfl (Nat.le_of_ble_eq_true rfl) dX3_readOrder_159 (fun H locs hJ => ?_)
      refine lv_if_eq (tgt := 201) hx hb dX3_readOrder_162 (by decide) (fun c_162 => ?_) (fun c_162 => ?_)
      · skip
        refine lv_iconst (v := 0) hx hb dX3_readOrder_201 (by decide) ?_
        have hs : sX3_readOrder u = (0, (sX3_readDigit w37).2) := hs.trans (by unfold bX3_readOrder_37; rw [if_neg c_41_98, if_neg c_41_99, if_pos c_41_103, if_pos c_162])
        exact fin (by rw [hs]; dsimp only; exact hJ) (by rw [hs]) dX3_readOrder_202
      · skip
        refine lv_aload_n hx hb dX3_readOrder_165 rfl (lv_at hl 0 rfl) ?_
        refine lv_bipush (v := 58) hx hb dX3_readOrder_166 (by decide) ?_
        refine kX3_31 X hJ (mX3_readSign l E B _ 58 ((sX3_readDigit w37).2) (Pd_sX3_readDigit (hpd))) rfl (by omega) (at_O rfl) hl.1 ⟨Nat.le_of_ble_eq_true rfl, Nat.le_of_ble_eq_true rfl⟩ ⟨Nat.le_refl _, Nat.le_refl _⟩ (rest := []) rfl (Nat.le_of_ble_eq_true rfl) dX3_readOrder_168 (fun H locs hJ => ?_)
        refine lv_if_eq (tgt := 201) hx hb dX3_readOrder_171 (by decide) (fun c_171 => ?_) (fun c_171 => ?_)
        · skip
          refine lv_iconst (v := 0) hx hb dX3_readOrder_201 (by decide) ?_
          have hs : sX3_readOrder u = (0, (sX3_readSign ((sX3_readDigit w37).2) 58).2) := hs.trans (by unfold bX3_readOrder_37; rw [if_neg c_41_98, if_neg c_41_99, if_pos c_41_103, if_neg c_162, if_pos c_171])
          exact fin (by rw [hs]; dsimp only; exact hJ) (by rw [hs]) dX3_readOrder_202
        · skip
          refine lv_aload_n hx hb dX3_readOrder_174 rfl (lv_at hl 0 rfl) ?_
          refine kX3_54 X hJ (mX3_readSecond l E B _ ((sX3_readSign ((sX3_readDigit w37).2) 58).2) (Pd_sX3_readSign (Pd_sX3_readDigit (hpd)))) rfl (by omega) (at_O rfl) hl.1 ⟨Nat.le_of_ble_eq_true rfl, Nat.le_of_ble_eq_true rfl⟩ ⟨Nat.le_refl _, Nat.le_refl _⟩ (rest := []) rfl (Nat.le_of_ble_eq_true rfl) dX3_readOrder_175 (fun H locs hJ => ?_)
          refine lv_if_eq (tgt := 201) hx hb dX3_readOrder_178 (by decide) (fun c_178 => ?_) (fun c_178 => ?_)
          · skip
            refine lv_iconst (v := 0) hx hb dX3_readOrder_201 (by decide) ?_
            have hs : sX3_readOrder u = (0, (sX3_readSecond ((sX3_readSign ((sX3_readDigit w37).2) 58).2)).2) := hs.trans (by unfold bX3_readOrder_37; rw [if_neg c_41_98, if_neg c_41_99, if_pos c_41_103, if_neg c_162, if_neg c_171, if_pos c_178])
            exact fin (by rw [hs]; dsimp only; exact hJ) (by rw [hs]) dX3_readOrder_202
          · skip
            refine lv_aload_n hx hb dX3_readOrder_181 rfl (lv_at hl 0 rfl) ?_
            refine lv_bipush (v := 61) hx hb dX3_readOrder_182 (by decide) ?_
            refine kX3_31 X hJ (mX3_readSign l E B _ 61 ((sX3_readSecond ((sX3_readSign ((sX3_readDigit w37).2) 58).2)).2) (Pd_sX3_readSecond (Pd_sX3_readSign (Pd_sX3_readDigit (hpd))))) rfl (by omega) (at_O rfl) hl.1 ⟨Nat.le_of_ble_eq_true rfl, Nat.le_of_ble_eq_true rfl⟩ ⟨Nat.le_refl _, Nat.le_refl _⟩ (rest := []) rfl (Nat.le_of_ble_eq_true rfl) dX3_readOrder_184 (fun H locs hJ => ?_)
            refine lv_if_eq (tgt := 201) hx hb dX3_readOrder_187 (by decide) (fun c_187 => ?_) (fun c_187 => ?_)
            · skip
              refine lv_iconst (v := 0) hx hb dX3_readOrder_201 (by decide) ?_
              have hs : sX3_readOrder u = (0, (sX3_readSign ((sX3_readSecond ((sX3_readSign ((sX3_readDigit w37).2) 58).2)).2) 61).2) := hs.trans (by unfold bX3_readOrder_37; rw [if_neg c_41_98, if_neg c_41_99, if_pos c_41_103, if_neg c_162, if_neg c_171, if_neg c_178, if_pos c_187])
              exact fin (by rw [hs]; dsimp only; exact hJ) (by rw [hs]) dX3_readOrder_202
            · skip
              refine lv_aload_n hx hb dX3_readOrder_190 rfl (lv_at hl 0 rfl) ?_
              refine kX3_48 X hJ (mX3_readThird l E B _ ((sX3_readSign ((sX3_readSecond ((sX3_readSign ((sX3_readDigit w37).2) 58).2)).2) 61).2) (Pd_sX3_readSign (Pd_sX3_readSecond (Pd_sX3_readSign (Pd_sX3_readDigit (hpd)))))) rfl (by omega) (at_O rfl) hl.1 ⟨Nat.le_of_ble_eq_true rfl, Nat.le_of_ble_eq_true rfl⟩ ⟨Nat.le_refl _, Nat.le_refl _⟩ (rest := []) rfl (Nat.le_of_ble_eq_true rfl) dX3_readOrder_191 (fun H locs hJ => ?_)
              refine lv_if_eq (tgt := 201) hx hb dX3_readOrder_194 (by decide) (fun c_194 => ?_) (fun c_194 => ?_)
              · skip
                refine lv_iconst (v := 0) hx hb dX3_readOrder_201 (by decide) ?_
                have hs : sX3_readOrder u = (0, (sX3_readThird ((sX3_readSign ((sX3_readSecond ((sX3_readSign ((sX3_readDigit w37).2) 58).2)).2) 61).2)).2) := hs.trans (by unfold bX3_readOrder_37; rw [if_neg c_41_98, if_neg c_41_99, if_pos c_41_103, if_neg c_162, if_neg c_171, if_neg c_178, if_neg c_187, if_pos c_194])
                exact fin (by rw [hs]; dsimp only; exact hJ) (by rw [hs]) dX3_readOrder_202
              · skip
                refine lv_iconst (v := 1) hx hb dX3_readOrder_197 (by decide) ?_
                refine lv_goto (tgt := 202) hx hb dX3_readOrder_198 (by decide) ?_
                have hs : sX3_readOrder u = (1, (sX3_readThird ((sX3_readSign ((sX3_readSecond ((sX3_readSign ((sX3_readDigit w37).2) 58).2)).2) 61).2)).2) := hs.trans (by unfold bX3_readOrder_37; rw [if_neg c_41_98, if_neg c_41_99, if_pos c_41_103, if_neg c_162, if_neg c_171, if_neg c_178, if_neg c_187, if_neg c_194])
                exact fin (by rw [hs]; dsimp only; exact hJ) (by rw [hs]) dX3_readOrder_202
    by_cases c_41_104 : w37 5 = 104
    · rw [c_41_104]
      refine lv_tableIn (tgt := 203) hx hb dX3_readOrder_41 (by decide) (by decide) (off := 162) (by decide) (by decide) ?_
      refine lv_aload_n hx hb dX3_readOrder_203 rfl (lv_at hl 0 rfl) ?_
      refine kX3_51 X hJ (mX3_readDigit l E B _ w37 (hpd)) rfl (by omega) (at_O rfl) hl.1 ⟨Nat.le_of_ble_eq_true rfl, Nat.le_of_ble_eq_true rfl⟩ ⟨Nat.le_refl _, Nat.le_refl _⟩ (rest := []) rfl (Nat.le_of_ble_eq_true rfl) dX3_readOrder_204 (fun H locs hJ => ?_)
      refine lv_if_eq (tgt := 230) hx hb dX3_readOrder_207 (by decide) (fun c_207 => ?_) (fun c_207 => ?_)
      · skip
        refine lv_iconst (v := 0) hx hb dX3_readOrder_230 (by decide) ?_
        have hs : sX3_readOrder u = (0, (sX3_readDigit w37).2) := hs.trans (by unfold bX3_readOrder_37; rw [if_neg c_41_98, if_neg c_41_99, if_neg c_41_103, if_pos c_41_104, if_pos c_207])
        exact fin (by rw [hs]; dsimp only; exact hJ) (by rw [hs]) dX3_readOrder_231
      · skip
        refine lv_aload_n hx hb dX3_readOrder_210 rfl (lv_at hl 0 rfl) ?_
        refine lv_bipush (v := 58) hx hb dX3_readOrder_211 (by decide) ?_
        refine kX3_31 X hJ (mX3_readSign l E B _ 58 ((sX3_readDigit w37).2) (Pd_sX3_readDigit (hpd))) rfl (by omega) (at_O rfl) hl.1 ⟨Nat.le_of_ble_eq_true rfl, Nat.le_of_ble_eq_true rfl⟩ ⟨Nat.le_refl _, Nat.le_refl _⟩ (rest := []) rfl (Nat.le_of_ble_eq_true rfl) dX3_readOrder_213 (fun H locs hJ => ?_)
        refine lv_if_eq (tgt := 230) hx hb dX3_readOrder_216 (by decide) (fun c_216 => ?_) (fun c_216 => ?_)
        · skip
          refine lv_iconst (v := 0) hx hb dX3_readOrder_230 (by decide) ?_
          have hs : sX3_readOrder u = (0, (sX3_readSign ((sX3_readDigit w37).2) 58).2) := hs.trans (by unfold bX3_readOrder_37; rw [if_neg c_41_98, if_neg c_41_99, if_neg c_41_103, if_pos c_41_104, if_neg c_207, if_pos c_216])
          exact fin (by rw [hs]; dsimp only; exact hJ) (by rw [hs]) dX3_readOrder_231
        · skip
          refine lv_aload_n hx hb dX3_readOrder_219 rfl (lv_at hl 0 rfl) ?_
          refine kX3_54 X hJ (mX3_readSecond l E B _ ((sX3_readSign ((sX3_readDigit w37).2) 58).2) (Pd_sX3_readSign (Pd_sX3_readDigit (hpd)))) rfl (by omega) (at_O rfl) hl.1 ⟨Nat.le_of_ble_eq_true rfl, Nat.le_of_ble_eq_true rfl⟩ ⟨Nat.le_refl _, Nat.le_refl _⟩ (rest := []) rfl (Nat.le_of_ble_eq_true rfl) dX3_readOrder_220 (fun H locs hJ => ?_)
          refine lv_if_eq (tgt := 230) hx hb dX3_readOrder_223 (by decide) (fun c_223 => ?_) (fun c_223 => ?_)
          · skip
            refine lv_iconst (v := 0) hx hb dX3_readOrder_230 (by decide) ?_
            have hs : sX3_readOrder u = (0, (sX3_readSecond ((sX3_readSign ((sX3_readDigit w37).2) 58).2)).2) := hs.trans (by unfold bX3_readOrder_37; rw [if_neg c_41_98, if_neg c_41_99, if_neg c_41_103, if_pos c_41_104, if_neg c_207, if_neg c_216, if_pos c_223])
            exact fin (by rw [hs]; dsimp only; exact hJ) (by rw [hs]) dX3_readOrder_231
          · skip
            refine lv_iconst (v := 1) hx hb dX3_readOrder_226 (by decide) ?_
            refine lv_goto (tgt := 231) hx hb dX3_readOrder_227 (by decide) ?_
            have hs : sX3_readOrder u = (1, (sX3_readSecond ((sX3_readSign ((sX3_readDigit w37).2) 58).2)).2) := hs.trans (by unfold bX3_readOrder_37; rw [if_neg c_41_98, if_neg c_41_99, if_neg c_41_103, if_pos c_41_104, if_neg c_207, if_neg c_216, if_neg c_223])
            exact fin (by rw [hs]; dsimp only; exact hJ) (by rw [hs]) dX3_readOrder_231
    by_cases c_41_108 : w37 5 = 108
    · rw [c_41_108]
      refine lv_tableIn (tgt := 232) hx hb dX3_readOrder_41 (by decide) (by decide) (off := 191) (by decide) (by decide) ?_
      refine lv_aload_n hx hb dX3_readOrder_232 rfl (lv_at hl 0 rfl) ?_
      refine kX3_51 X hJ (mX3_readDigit l E B _ w37 (hpd)) rfl (by omega) (at_O rfl) hl.1 ⟨Nat.le_of_ble_eq_true rfl, Nat.le_of_ble_eq_true rfl⟩ ⟨Nat.le_refl _, Nat.le_refl _⟩ (rest := []) rfl (Nat.le_of_ble_eq_true rfl) dX3_readOrder_233 (fun H locs hJ => ?_)
      have hs : sX3_readOrder u = ((sX3_readDigit w37).1, (sX3_readDigit w37).2) := hs.trans (by unfold bX3_readOrder_37; rw [if_neg c_41_98, if_neg c_41_99, if_neg c_41_103, if_neg c_41_104, if_pos c_41_108])
      exact fin (by rw [hs]; dsimp only; exact hJ) (by rw [hs]) dX3_readOrder_236
    refine rtabOut (tgt := 237) hx hb dX3_readOrder_41 (by decide) (fun h1 h2 => ?_) ?_
    · have e98 := ne_toInt (n := 98) c_41_98 (by decide); have e99 := ne_toInt (n := 99) c_41_99 (by decide); have e103 := ne_toInt (n := 103) c_41_103 (by decide); have e104 := ne_toInt (n := 104) c_41_104 (by decide); have e108 := ne_toInt (n := 108) c_41_108 (by decide)
      rcases (show (w37 5 : Int32).toInt = 100 ∨ (w37 5 : Int32).toInt = 101 ∨ (w37 5 : Int32).toInt = 102 ∨ (w37 5 : Int32).toInt = 105 ∨ (w37 5 : Int32).toInt = 106 ∨ (w37 5 : Int32).toInt = 107 by omega) with hq | hq | hq | hq | hq | hq <;> (rw [hq]; decide)
    refine lv_aload_n hx hb dX3_readOrder_237 rfl (lv_at hl 0 rfl) ?_
    refine lv_aload_n hx hb dX3_readOrder_238 rfl (lv_at hl 0 rfl) ?_
    refine kX3_57 X hJ (mX3_readNumber l E B _ w37 (hpd)) rfl (by omega) (at_O rfl) hl.1 ⟨Nat.le_of_ble_eq_true rfl, Nat.le_of_ble_eq_true rfl⟩ ⟨Nat.le_refl _, Nat.le_refl _⟩ (rest := [.ref (B + 458)]) rfl (Nat.le_of_ble_eq_true rfl) dX3_readOrder_239 (fun H locs hJ => ?_)
    refine pX3_61 X hJ  dX3_readOrder_242 (fun H locs hJ => ?_)
    refine lv_aload_n hx hb dX3_readOrder_245 rfl (lv_at hl 0 rfl) ?_
    refine gX3_61 X hJ (w := upd ((sX3_readNumber w37).2) (6) ((sX3_readNumber w37).1)) rfl dX3_readOrder_246 ?_
    refine lv_bipush (v := (-6)) hx hb dX3_readOrder_249 (by decide) ?_
    refine lv_icmp_eq (tgt := 258) hx hb dX3_readOrder_251 (by decide) (fun c_251 => ?_) (fun c_251 => ?_)
    · skip
      refine lv_iconst (v := 0) hx hb dX3_readOrder_258 (by decide) ?_
      have hs : sX3_readOrder u = (0, upd ((sX3_readNumber w37).2) (6) ((sX3_readNumber w37).1)) := hs.trans (by unfold bX3_readOrder_37; rw [if_neg c_41_98, if_neg c_41_99, if_neg c_41_103, if_neg c_41_104, if_neg c_41_108, if_pos c_251])
      exact fin (by rw [hs]; dsimp only; exact hJ) (by rw [hs]) dX3_readOrder_259
    · skip
      refine lv_iconst (v := 1) hx hb dX3_readOrder_254 (by decide) ?_
      refine lv_goto (tgt := 259) hx hb dX3_readOrder_255 (by decide) ?_
      have hs : sX3_readOrder u = (1, upd ((sX3_readNumber w37).2) (6) ((sX3_readNumber w37).1)) := hs.trans (by unfold bX3_readOrder_37; rw [if_neg c_41_98, if_neg c_41_99, if_neg c_41_103, if_neg c_41_104, if_neg c_41_108, if_neg c_251])
      exact fin (by rw [hs]; dsimp only; exact hJ) (by rw [hs]) dX3_readOrder_259
  refine lv_aload_n hx hb dX3_readOrder_0 rfl (lv_at hl 0 rfl) ?_
  refine lv_aload_n hx hb dX3_readOrder_1 rfl (lv_at hl 0 rfl) ?_
  refine gX3_9 X hJ (w := u) rfl dX3_readOrder_2 ?_
  refine lv_aload_n hx hb dX3_readOrder_5 rfl (lv_at hl 0 rfl) ?_
  refine gX3_15 X hJ (w := u) rfl dX3_readOrder_6 ?_
  refine kX3_35 X hJ (mX4_codeAt l E B _ (u 4) u rfl (hpd)) rfl (by omega) (at_P rfl) hl.1 ⟨Nat.le_of_ble_eq_true rfl, Nat.le_of_ble_eq_true rfl⟩ ⟨Nat.le_refl _, Nat.le_refl _⟩ (rest := [.ref (B + 458)]) rfl (Nat.le_of_ble_eq_true rfl) dX3_readOrder_9 (fun H locs hJ => ?_)
  refine pX3_39 X hJ  dX3_readOrder_12 (fun H locs hJ => ?_)
  refine lv_aload_n hx hb dX3_readOrder_15 rfl (lv_at hl 0 rfl) ?_
  refine gX3_39 X hJ (w := upd u (5) (sX4_codeAt u (u 4))) rfl dX3_readOrder_16 ?_
  refine kX3_42 X hJ (mX3_isKind l E B _ ((upd u (5) (sX4_codeAt u (u 4))) 5)) rfl hl.1 ⟨Nat.le_of_ble_eq_true rfl, Nat.le_of_ble_eq_true rfl⟩ ⟨Nat.le_refl _, Nat.le_refl _⟩ (rest := []) rfl (Nat.le_of_ble_eq_true rfl) dX3_readOrder_19 (fun H locs hJ => ?_)
  refine lv_if_ne (tgt := 27) hx hb dX3_readOrder_22 (by decide) (fun c_22 => ?_) (fun c_22 => ?_)
  · skip
    refine lv_aload_n hx hb dX3_readOrder_27 rfl (lv_at hl 0 rfl) ?_
    refine lv_dup hx hb dX3_readOrder_28 rfl ?_
    refine gX3_15 X hJ (w := upd u (5) (sX4_codeAt u (u 4))) rfl dX3_readOrder_29 ?_
    refine lv_iconst (v := 1) hx hb dX3_readOrder_32 (by decide) ?_
    refine lv_iadd hx hb dX3_readOrder_33 ?_
    refine pX3_15 X hJ  dX3_readOrder_34 (fun H locs hJ => ?_)
    have hs : sX3_readOrder u = bX3_readOrder_37  (upd (upd u (5) (sX4_codeAt u (u 4))) (4) (((upd u (5) (sX4_codeAt u (u 4))) 4) + 1)) := by unfold sX3_readOrder; rw [if_neg c_22]
    exact bk_37 (upd (upd u (5) (sX4_codeAt u (u 4))) (4) (((upd u (5) (sX4_codeAt u (u 4))) 4) + 1)) (Pd_upd (by decide) (Pd_upd (by decide) (hpd))) _ _ _ hJ (lv_sub hl [0] rfl) hs
  · skip
    refine lv_iconst (v := 0) hx hb dX3_readOrder_25 (by decide) ?_
    have hs : sX3_readOrder u = (0, upd u (5) (sX4_codeAt u (u 4))) := by unfold sX3_readOrder; rw [if_pos c_22]
    exact fin (by rw [hs]; dsimp only; exact hJ) (by rw [hs]) dX3_readOrder_26

theorem Pd_bX3_readOrder_37 {w37 : Row}  (h : Pd w37) : Pd (bX3_readOrder_37 w37).2 := by
  unfold bX3_readOrder_37
  exact Pd_i2 (Pd_i2 (Pd_p2 (Pd_sX3_readDigitPair (h))) (Pd_i2 (Pd_p2 (Pd_sX3_readSign (Pd_sX3_readDigitPair (h)))) (Pd_i2 (Pd_p2 (Pd_sX3_readThird (Pd_sX3_readSign (Pd_sX3_readDigitPair (h))))) (Pd_p2 (Pd_sX3_readThird (Pd_sX3_readSign (Pd_sX3_readDigitPair (h)))))))) (Pd_i2 (Pd_i2 (Pd_p2 (Pd_sX3_readDigit (h))) (Pd_i2 (Pd_p2 (Pd_sX3_readSign (Pd_sX3_readDigit (h)))) (Pd_i2 (Pd_p2 (Pd_sX3_readSecond (Pd_sX3_readSign (Pd_sX3_readDigit (h))))) (Pd_p2 (Pd_sX3_readSecond (Pd_sX3_readSign (Pd_sX3_readDigit (h)))))))) (Pd_i2 (Pd_i2 (Pd_p2 (Pd_sX3_readDigit (h))) (Pd_i2 (Pd_p2 (Pd_sX3_readSign (Pd_sX3_readDigit (h)))) (Pd_i2 (Pd_p2 (Pd_sX3_readSecond (Pd_sX3_readSign (Pd_sX3_readDigit (h))))) (Pd_i2 (Pd_p2 (Pd_sX3_readSign (Pd_sX3_readSecond (Pd_sX3_readSign (Pd_sX3_readDigit (h)))))) (Pd_i2 (Pd_p2 (Pd_sX3_readThird (Pd_sX3_readSign (Pd_sX3_readSecond (Pd_sX3_readSign (Pd_sX3_readDigit (h))))))) (Pd_p2 (Pd_sX3_readThird (Pd_sX3_readSign (Pd_sX3_readSecond (Pd_sX3_readSign (Pd_sX3_readDigit (h)))))))))))) (Pd_i2 (Pd_i2 (Pd_p2 (Pd_sX3_readDigit (h))) (Pd_i2 (Pd_p2 (Pd_sX3_readSign (Pd_sX3_readDigit (h)))) (Pd_i2 (Pd_p2 (Pd_sX3_readSecond (Pd_sX3_readSign (Pd_sX3_readDigit (h))))) (Pd_p2 (Pd_sX3_readSecond (Pd_sX3_readSign (Pd_sX3_readDigit (h)))))))) (Pd_i2 (Pd_p2 (Pd_sX3_readDigit (h))) (Pd_i2 (Pd_p2 (Pd_upd (by decide) (Pd_sX3_readNumber (h)))) (Pd_p2 (Pd_upd (by decide) (Pd_sX3_readNumber (h)))))))))
theorem Pd_sX3_readOrder {u : Row}  (h : Pd u) : Pd (sX3_readOrder u).2 := by
  unfold sX3_readOrder
  exact Pd_i2 (Pd_p2 (Pd_upd (by decide) (h))) (Pd_bX3_readOrder_37 (Pd_upd (by decide) (Pd_upd (by decide) (h))))
theorem Pd_goToStart {u : Row} (h : Pd u) : Pd (sX3_goToStart u) := Pd_upd (by decide) h
def bX3_faultPlace_6  : Nat → Row → Nat → Int32 × Row
  | 0, w6, _ => (0, w6)
  | n + 1, w6, p => if 80 ≤ nI p then ((w6 4, w6)) else (if (sX3_readOrder w6).1 = 0 then ((((sX3_readOrder w6).2) 4, (sX3_readOrder w6).2)) else (if ((sX3_readOrder w6).2) 4 = ((sX3_readOrder w6).2) 3 then (((-6), (sX3_readOrder w6).2)) else (if (sX3_readSign ((sX3_readOrder w6).2) 59).1 = 0 then ((((sX3_readSign ((sX3_readOrder w6).2) 59).2) 4, (sX3_readSign ((sX3_readOrder w6).2) 59).2)) else (bX3_faultPlace_6  n ((sX3_readSign ((sX3_readOrder w6).2) 59).2) (p + 1)))))
def sX3_faultPlace (u : Row) : Int32 × Row := bX3_faultPlace_6  81 (sX3_goToStart u) 0
set_option maxHeartbeats 4000000 in
set_option maxRecDepth 100000 in
theorem mX3_faultPlace (l : Launch) (E : EE) (B : Nat) (g : GS)  (u : Row) (hpd : Pd u) : CG l yX3_faultPlace cX3_faultPlace 2 (some .int) 5 105 E B [.ref (B + 458)] (upC g u) (some (.int (sX3_faultPlace u).1)) (upC g ((sX3_faultPlace u).2)) := by
  refine mkI (own := RX3) (ty := .int) rfl (by decide) rfl (rfl) (Nat.le_of_ble_eq_true rfl) (fun P_ e_ s_ m_ a_ below meth cd Q X fin ls hl hJ => ?_)
  have hx := X.1
  have hb := X.2.1
  have hl : lv_has ls 2 [(0, .ref (B + 458))] := hl
  have bk_6 : ∀ (n : Nat) (w6 : Row)  (p : Nat), 80 - p < n → (Pd w6) → (p ≤ 80) → ∀ (H : Heap) (locs : List Loc) (ls : Array Slot), JG E B s_ (upC g w6) H locs → lv_has ls 2 [(0, .ref (B + 458)), (1, .int (nI p))] → sX3_faultPlace u = bX3_faultPlace_6  n w6 p → W P_ l e_ (rmm 5 105 0 0) s_ m_ a_ below meth cd H locs 0 0 Q (F0 m_ 6 ls []) := by
    intro n
    induction n with
    | zero => intro w6 p hm; exact absurd hm (Nat.not_lt_zero _)
    | succ n ih =>
      intro w6 p hm hpd hp H locs ls hJ hl hs
      refine lv_iload_n hx hb dX3_faultPlace_6 rfl (lv_at hl 1 rfl) ?_
      refine lv_bipush (v := 80) hx hb dX3_faultPlace_7 (by decide) ?_
      refine lv_icmp_ge (tgt := 56) hx hb dX3_faultPlace_9 (by decide) (fun c_9 => ?_) (fun c_9 => ?_)
      · skip
        refine lv_aload_n hx hb dX3_faultPlace_56 rfl (lv_at hl 0 rfl) ?_
        refine gX3_15 X hJ (w := w6) rfl dX3_faultPlace_57 ?_
        have hs : sX3_faultPlace u = (w6 4, w6) := hs.trans (by rw [bX3_faultPlace_6, if_pos c_9])
        exact fin (by rw [hs]; dsimp only; exact hJ) (by rw [hs]) dX3_faultPlace_60
      · skip
        have hp2 := lit_lt (n := 80) c_9 (by omega) (by omega)
        refine lv_aload_n hx hb dX3_faultPlace_12 rfl (lv_at hl 0 rfl) ?_
        refine kX3_22 X hJ (mX3_readOrder l E B _ w6 (hpd)) rfl (by omega) (at_O rfl) hl.1 ⟨Nat.le_of_ble_eq_true rfl, Nat.le_of_ble_eq_true rfl⟩ ⟨Nat.le_refl _, Nat.le_refl _⟩ (rest := []) rfl (Nat.le_of_ble_eq_true rfl) dX3_faultPlace_13 (fun H locs hJ => ?_)
        refine lv_if_eq (tgt := 56) hx hb dX3_faultPlace_16 (by decide) (fun c_16 => ?_) (fun c_16 => ?_)
        · skip
          refine lv_aload_n hx hb dX3_faultPlace_56 rfl (lv_at hl 0 rfl) ?_
          refine gX3_15 X hJ (w := (sX3_readOrder w6).2) rfl dX3_faultPlace_57 ?_
          have hs : sX3_faultPlace u = (((sX3_readOrder w6).2) 4, (sX3_readOrder w6).2) := hs.trans (by rw [bX3_faultPlace_6, if_neg c_9, if_pos c_16])
          exact fin (by rw [hs]; dsimp only; exact hJ) (by rw [hs]) dX3_faultPlace_60
        · skip
          refine lv_aload_n hx hb dX3_faultPlace_19 rfl (lv_at hl 0 rfl) ?_
          refine gX3_15 X hJ (w := (sX3_readOrder w6).2) rfl dX3_faultPlace_20 ?_
          refine lv_aload_n hx hb dX3_faultPlace_23 rfl (lv_at hl 0 rfl) ?_
          refine gX3_9 X hJ (w := (sX3_readOrder w6).2) rfl dX3_faultPlace_24 ?_
          refine gX3_26 X hJ (w := (sX3_readOrder w6).2) rfl dX3_faultPlace_27 ?_
          refine lv_icmp_ne (tgt := 36) hx hb dX3_faultPlace_30 (by decide) (fun c_30 => ?_) (fun c_30 => ?_)
          · skip
            refine lv_aload_n hx hb dX3_faultPlace_36 rfl (lv_at hl 0 rfl) ?_
            refine lv_bipush (v := 59) hx hb dX3_faultPlace_37 (by decide) ?_
            refine kX3_31 X hJ (mX3_readSign l E B _ 59 ((sX3_readOrder w6).2) (Pd_sX3_readOrder (hpd))) rfl (by omega) (at_O rfl) hl.1 ⟨Nat.le_of_ble_eq_true rfl, Nat.le_of_ble_eq_true rfl⟩ ⟨Nat.le_refl _, Nat.le_refl _⟩ (rest := []) rfl (Nat.le_of_ble_eq_true rfl) dX3_faultPlace_39 (fun H locs hJ => ?_)
            refine lv_if_ne (tgt := 50) hx hb dX3_faultPlace_42 (by decide) (fun c_42 => ?_) (fun c_42 => ?_)
            · skip
              refine lv_iinc (v := nI (p + 1)) (lv' := [(1, .int (nI (p + 1))), (0, .ref (B + 458))]) hx hb dX3_faultPlace_50 hl (k := 1) rfl (by first | exact nI_add _ _ | rfl) (by decide) rfl (fun ls hl => ?_)
              refine lv_goto (tgt := 6) hx hb dX3_faultPlace_53 (by decide) ?_
              have hs : sX3_faultPlace u = bX3_faultPlace_6  n ((sX3_readSign ((sX3_readOrder w6).2) 59).2) (p + 1) := hs.trans (by rw [bX3_faultPlace_6, if_neg c_9, if_neg c_16, if_neg c_30, if_neg c_42])
              exact ih ((sX3_readSign ((sX3_readOrder w6).2) 59).2) (p + 1) (by omega) (Pd_sX3_readSign (Pd_sX3_readOrder (hpd))) (by omega) _ _ _ hJ (lv_sub hl [1, 0] rfl) hs
            · skip
              refine lv_aload_n hx hb dX3_faultPlace_45 rfl (lv_at hl 0 rfl) ?_
              refine gX3_15 X hJ (w := (sX3_readSign ((sX3_readOrder w6).2) 59).2) rfl dX3_faultPlace_46 ?_
              have hs : sX3_faultPlace u = (((sX3_readSign ((sX3_readOrder w6).2) 59).2) 4, (sX3_readSign ((sX3_readOrder w6).2) 59).2) := hs.trans (by rw [bX3_faultPlace_6, if_neg c_9, if_neg c_16, if_neg c_30, if_pos c_42])
              exact fin (by rw [hs]; dsimp only; exact hJ) (by rw [hs]) dX3_faultPlace_49
          · skip
            refine lv_bipush (v := (-6)) hx hb dX3_faultPlace_33 (by decide) ?_
            have hs : sX3_faultPlace u = ((-6), (sX3_readOrder w6).2) := hs.trans (by rw [bX3_faultPlace_6, if_neg c_9, if_neg c_16, if_pos c_30])
            exact fin (by rw [hs]; dsimp only; exact hJ) (by rw [hs]) dX3_faultPlace_35
  refine lv_aload_n hx hb dX3_faultPlace_0 rfl (lv_at hl 0 rfl) ?_
  refine kX3_19 X hJ (mX3_goToStart l E B _ u) rfl (by omega) (at_O rfl) hl.1 ⟨Nat.le_of_ble_eq_true rfl, Nat.le_of_ble_eq_true rfl⟩ ⟨Nat.le_refl _, Nat.le_refl _⟩ (rest := []) rfl (Nat.le_of_ble_eq_true rfl) dX3_faultPlace_1 (fun H locs hJ => ?_)
  refine lv_iconst (v := 0) hx hb dX3_faultPlace_4 (by decide) ?_
  refine lv_istore_n (lv' := [(1, .int 0), (0, .ref (B + 458))]) hx hb dX3_faultPlace_5 rfl hl (by decide) rfl (fun ls hl => ?_)
  have hs : sX3_faultPlace u = bX3_faultPlace_6  81 (sX3_goToStart u) 0 := by unfold sX3_faultPlace; rfl
  exact bk_6 81 (sX3_goToStart u) 0 (by omega) (Pd_goToStart (hpd)) (by omega) _ _ _ hJ (lv_sub hl [1, 0] rfl) hs

theorem Pd_bX3_faultPlace_6  : ∀ (n : Nat) (w6 : Row) (p : Nat), Pd w6 → Pd (bX3_faultPlace_6  n w6 p).2 := by
  intro n
  induction n with
  | zero => intro w6 p h; exact h
  | succ n ih =>
    intro w6 p h
    rw [bX3_faultPlace_6]
    exact Pd_i2 (Pd_p2 (h)) (Pd_i2 (Pd_p2 (Pd_sX3_readOrder (h))) (Pd_i2 (Pd_p2 (Pd_sX3_readOrder (h))) (Pd_i2 (Pd_p2 (Pd_sX3_readSign (Pd_sX3_readOrder (h)))) (ih _ _ (Pd_sX3_readSign (Pd_sX3_readOrder (h)))))))
theorem Pd_sX3_faultPlace {u : Row}  (h : Pd u) : Pd (sX3_faultPlace u).2 := by
  unfold sX3_faultPlace
  exact Pd_bX3_faultPlace_6 _ _ _ (Pd_goToStart (h))
