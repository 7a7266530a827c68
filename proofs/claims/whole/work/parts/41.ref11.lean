theorem b01_p1 {β : Type} {v : Int32} {w : β} (h : b01 v) : b01 (v, w).1 := h
theorem Pq_spi0 {s : Nat} {r : Row} (h : Pq s r) (hl : nn (r 2) < 80) : Pq s (upd r 2 (r 2 + 1)) := Pq_w (Nat.le_succ s) (Pq_spi h hl)
def bX7_readsOrder_27 (r : Row) (kd : Int32) : Int32 × Row := if kd = 98 then (if (sX7_readsOne (upd (upd r (3) kd) (2) (((upd r (3) kd) 2) + 1))).1 = 0 then ((0, (sX7_readsOne (upd (upd r (3) kd) (2) (((upd r (3) kd) 2) + 1))).2)) else (if (sX7_readsTwo ((sX7_readsOne (upd (upd r (3) kd) (2) (((upd r (3) kd) 2) + 1))).2) 1).1 = 0 then ((0, (sX7_readsTwo ((sX7_readsOne (upd (upd r (3) kd) (2) (((upd r (3) kd) 2) + 1))).2) 1).2)) else (if (sX7_takes ((sX7_readsTwo ((sX7_readsOne (upd (upd r (3) kd) (2) (((upd r (3) kd) 2) + 1))).2) 1).2) 42).1 = 0 then ((0, (sX7_takes ((sX7_readsTwo ((sX7_readsOne (upd (upd r (3) kd) (2) (((upd r (3) kd) 2) + 1))).2) 1).2) 42).2)) else (if (sX7_readsThree ((sX7_takes ((sX7_readsTwo ((sX7_readsOne (upd (upd r (3) kd) (2) (((upd r (3) kd) 2) + 1))).2) 1).2) 42).2)).1 = 0 then ((0, (sX7_readsThree ((sX7_takes ((sX7_readsTwo ((sX7_readsOne (upd (upd r (3) kd) (2) (((upd r (3) kd) 2) + 1))).2) 1).2) 42).2)).2)) else ((1, (sX7_readsThree ((sX7_takes ((sX7_readsTwo ((sX7_readsOne (upd (upd r (3) kd) (2) (((upd r (3) kd) 2) + 1))).2) 1).2) 42).2)).2)))))) else if kd = 99 then (if (sX7_readsOne (upd (upd r (3) kd) (2) (((upd r (3) kd) 2) + 1))).1 = 0 then ((0, (sX7_readsOne (upd (upd r (3) kd) (2) (((upd r (3) kd) 2) + 1))).2)) else (if (sX7_takes ((sX7_readsOne (upd (upd r (3) kd) (2) (((upd r (3) kd) 2) + 1))).2) 42).1 = 0 then ((0, (sX7_takes ((sX7_readsOne (upd (upd r (3) kd) (2) (((upd r (3) kd) 2) + 1))).2) 42).2)) else (if (sX7_readsThree ((sX7_takes ((sX7_readsOne (upd (upd r (3) kd) (2) (((upd r (3) kd) 2) + 1))).2) 42).2)).1 = 0 then ((0, (sX7_readsThree ((sX7_takes ((sX7_readsOne (upd (upd r (3) kd) (2) (((upd r (3) kd) 2) + 1))).2) 42).2)).2)) else ((1, (sX7_readsThree ((sX7_takes ((sX7_readsOne (upd (upd r (3) kd) (2) (((upd r (3) kd) 2) + 1))).2) 42).2)).2))))) else if kd = 103 then (if (sX7_readsOne (upd (upd r (3) kd) (2) (((upd r (3) kd) 2) + 1))).1 = 0 then ((0, (sX7_readsOne (upd (upd r (3) kd) (2) (((upd r (3) kd) 2) + 1))).2)) else (if (sX7_takes ((sX7_readsOne (upd (upd r (3) kd) (2) (((upd r (3) kd) 2) + 1))).2) 58).1 = 0 then ((0, (sX7_takes ((sX7_readsOne (upd (upd r (3) kd) (2) (((upd r (3) kd) 2) + 1))).2) 58).2)) else (if (sX7_readsTwo ((sX7_takes ((sX7_readsOne (upd (upd r (3) kd) (2) (((upd r (3) kd) 2) + 1))).2) 58).2) 0).1 = 0 then ((0, (sX7_readsTwo ((sX7_takes ((sX7_readsOne (upd (upd r (3) kd) (2) (((upd r (3) kd) 2) + 1))).2) 58).2) 0).2)) else (if (sX7_takes ((sX7_readsTwo ((sX7_takes ((sX7_readsOne (upd (upd r (3) kd) (2) (((upd r (3) kd) 2) + 1))).2) 58).2) 0).2) 61).1 = 0 then ((0, (sX7_takes ((sX7_readsTwo ((sX7_takes ((sX7_readsOne (upd (upd r (3) kd) (2) (((upd r (3) kd) 2) + 1))).2) 58).2) 0).2) 61).2)) else (if (sX7_readsThree ((sX7_takes ((sX7_readsTwo ((sX7_takes ((sX7_readsOne (upd (upd r (3) kd) (2) (((upd r (3) kd) 2) + 1))).2) 58).2) 0).2) 61).2)).1 = 0 then ((0, (sX7_readsThree ((sX7_takes ((sX7_readsTwo ((sX7_takes ((sX7_readsOne (upd (upd r (3) kd) (2) (((upd r (3) kd) 2) + 1))).2) 58).2) 0).2) 61).2)).2)) else ((1, (sX7_readsThree ((sX7_takes ((sX7_readsTwo ((sX7_takes ((sX7_readsOne (upd (upd r (3) kd) (2) (((upd r (3) kd) 2) + 1))).2) 58).2) 0).2) 61).2)).2))))))) else if kd = 104 then (if (sX7_readsOne (upd (upd r (3) kd) (2) (((upd r (3) kd) 2) + 1))).1 = 0 then ((0, (sX7_readsOne (upd (upd r (3) kd) (2) (((upd r (3) kd) 2) + 1))).2)) else (if (sX7_takes ((sX7_readsOne (upd (upd r (3) kd) (2) (((upd r (3) kd) 2) + 1))).2) 58).1 = 0 then ((0, (sX7_takes ((sX7_readsOne (upd (upd r (3) kd) (2) (((upd r (3) kd) 2) + 1))).2) 58).2)) else (if (sX7_readsTwo ((sX7_takes ((sX7_readsOne (upd (upd r (3) kd) (2) (((upd r (3) kd) 2) + 1))).2) 58).2) 0).1 = 0 then ((0, (sX7_readsTwo ((sX7_takes ((sX7_readsOne (upd (upd r (3) kd) (2) (((upd r (3) kd) 2) + 1))).2) 58).2) 0).2)) else ((1, (sX7_readsTwo ((sX7_takes ((sX7_readsOne (upd (upd r (3) kd) (2) (((upd r (3) kd) 2) + 1))).2) 58).2) 0).2))))) else if kd = 108 then (((sX7_readsOne (upd (upd r (3) kd) (2) (((upd r (3) kd) 2) + 1))).1, (sX7_readsOne (upd (upd r (3) kd) (2) (((upd r (3) kd) 2) + 1))).2)) else if kd = 112 then (((sX7_readsThree (upd (upd r (3) kd) (2) (((upd r (3) kd) 2) + 1))).1, (sX7_readsThree (upd (upd r (3) kd) (2) (((upd r (3) kd) 2) + 1))).2)) else ((0, upd (upd (upd r (3) kd) (2) (((upd r (3) kd) 2) + 1)) (2) (((upd (upd r (3) kd) (2) (((upd r (3) kd) 2) + 1)) 2) - 1)))
def sX7_readsOrder (r : Row) : Int32 × Row := if r 1 ≤ r 2 then (bX7_readsOrder_27 r 32) else (bX7_readsOrder_27 r (((r (100 + (nn (r 2)))).toUInt32 % 65536).toInt32))
theorem b01_bX7_readsOrder_27 {r : Row} {kd : Int32}  : b01 (bX7_readsOrder_27 r kd).1 := by
  unfold bX7_readsOrder_27
  exact b01_i2 (b01_i2 (Or.inl rfl) (b01_i2 (Or.inl rfl) (b01_i2 (Or.inl rfl) (b01_i2 (Or.inl rfl) (Or.inr rfl))))) (b01_i2 (b01_i2 (Or.inl rfl) (b01_i2 (Or.inl rfl) (b01_i2 (Or.inl rfl) (Or.inr rfl)))) (b01_i2 (b01_i2 (Or.inl rfl) (b01_i2 (Or.inl rfl) (b01_i2 (Or.inl rfl) (b01_i2 (Or.inl rfl) (b01_i2 (Or.inl rfl) (Or.inr rfl)))))) (b01_i2 (b01_i2 (Or.inl rfl) (b01_i2 (Or.inl rfl) (b01_i2 (Or.inl rfl) (Or.inr rfl)))) (b01_i2 (b01_p1 b01_X7_readsOne) (b01_i2 (b01_p1 b01_X7_readsThree) (Or.inl rfl))))))
theorem b01_sX7_readsOrder {r : Row}  : b01 (sX7_readsOrder r).1 := by
  unfold sX7_readsOrder
  exact b01_i2 (b01_bX7_readsOrder_27) (b01_bX7_readsOrder_27)
set_option maxHeartbeats 4000000 in
set_option maxRecDepth 100000 in
theorem mX7_readsOrder (l : Launch) (E : EE) (B : Nat) (g : GS)  (r : Row)  (hpt : Pq 0 r) : CG l yX7_readsOrder cX7_readsOrder 1 (some .boolean) 5 110 E B [.ref (B + 459)] (upR g r) (some (.int (sX7_readsOrder r).1)) (upR g ((sX7_readsOrder r).2)) := by
  refine mkI (own := RX7) (ty := .boolean) rfl (by decide) rfl (b01_sX7_readsOrder.nar) (Nat.le_of_ble_eq_true rfl) (fun P_ e_ s_ m_ a_ below meth cd Q X fin ls hl hJ => ?_)
  have hx := X.1
  have hb := X.2.1
  have hl : lv_has ls 1 [(0, .ref (B + 459))] := hl
  have bk_27 : ∀  (kd : Int32), (narrow .char (.int kd) = .int kd ∧ fits .char (.int kd) = true) → (kd = 32 ∨ nn (r 2) < nn (r 1)) → ∀ (H : Heap) (locs : List Loc) (ls : Array Slot), JG E B s_ (upR g r) H locs → lv_has ls 1 [(0, .ref (B + 459))] → sX7_readsOrder r = bX7_readsOrder_27 r kd → W P_ l e_ (rmm 5 110 0 0) s_ m_ a_ below meth cd H locs 0 0 Q (F0 m_ 27 ls [.int kd, .ref (B + 459)]) := by
    intro kd hch hkd H locs ls hJ hl hs
    refine pX7_222 X hJ  (hch.1) (hch.2) dX7_readsOrder_27 (fun H locs hJ => ?_)
    refine lv_aload_n hx hb dX7_readsOrder_30 rfl (lv_at hl 0 rfl) ?_
    refine lv_dup hx hb dX7_readsOrder_31 rfl ?_
    refine gX7_199 X hJ (w := upd r (3) kd) rfl dX7_readsOrder_32 ?_
    refine lv_iconst (v := 1) hx hb dX7_readsOrder_35 (by decide) ?_
    refine lv_iadd hx hb dX7_readsOrder_36 ?_
    refine pX7_199 X hJ  dX7_readsOrder_37 (fun H locs hJ => ?_)
    refine lv_aload_n hx hb dX7_readsOrder_40 rfl (lv_at hl 0 rfl) ?_
    refine gX7_222 X hJ (w := upd (upd r (3) kd) (2) (((upd r (3) kd) 2) + 1)) rfl dX7_readsOrder_41 ?_
    rw [show (upd (upd r (3) kd) (2) (((upd r (3) kd) 2) + 1)) 3 = kd from rfl]
    by_cases c_44_98 : kd = 98
    · rw [c_44_98]
      refine lv_tableIn (tgt := 120) hx hb dX7_readsOrder_44 (by decide) (by decide) (off := 76) (by decide) (by decide) ?_
      have hspb : nn (r 2) < 80 := by have h1 := hkd.resolve_left (by rw [c_44_98]; decide); have h2 := hpt.1.1.le; omega
      refine lv_aload_n hx hb dX7_readsOrder_120 rfl (lv_at hl 0 rfl) ?_
      refine kX7_226 X hJ (mX7_readsOne l E B _ (upd (upd r (3) kd) (2) (((upd r (3) kd) 2) + 1)) (Pq_spi0 (Pq_upd (by omega) (by omega) (hpt)) hspb)) rfl (by omega) (at_M rfl) hl.1 ⟨Nat.le_of_ble_eq_true rfl, Nat.le_of_ble_eq_true rfl⟩ ⟨Nat.le_refl _, Nat.le_refl _⟩ (rest := []) rfl (Nat.le_of_ble_eq_true rfl) dX7_readsOrder_121 (fun H locs hJ => ?_)
      refine lv_if_eq (tgt := 155) hx hb dX7_readsOrder_124 (by decide) (fun c_124 => ?_) (fun c_124 => ?_)
      · skip
        refine lv_iconst (v := 0) hx hb dX7_readsOrder_155 (by decide) ?_
        have hs : sX7_readsOrder r = (0, (sX7_readsOne (upd (upd r (3) kd) (2) (((upd r (3) kd) 2) + 1))).2) := hs.trans (by unfold bX7_readsOrder_27; rw [if_pos c_44_98, if_pos c_124])
        exact fin (by rw [hs]; dsimp only; exact hJ) (by rw [hs]) dX7_readsOrder_156
      · skip
        refine lv_aload_n hx hb dX7_readsOrder_127 rfl (lv_at hl 0 rfl) ?_
        refine lv_iconst (v := 1) hx hb dX7_readsOrder_128 (by decide) ?_
        refine kX7_230 X hJ (mX7_readsTwo l E B _ 1 ((sX7_readsOne (upd (upd r (3) kd) (2) (((upd r (3) kd) 2) + 1))).2) (Pq_X7_readsOne (Pq_spi0 (Pq_upd (by omega) (by omega) (hpt)) hspb))) rfl (by omega) (at_M rfl) hl.1 ⟨Nat.le_of_ble_eq_true rfl, Nat.le_of_ble_eq_true rfl⟩ ⟨Nat.le_refl _, Nat.le_refl _⟩ (rest := []) rfl (Nat.le_of_ble_eq_true rfl) dX7_readsOrder_129 (fun H locs hJ => ?_)
        refine lv_if_eq (tgt := 155) hx hb dX7_readsOrder_132 (by decide) (fun c_132 => ?_) (fun c_132 => ?_)
        · skip
          refine lv_iconst (v := 0) hx hb dX7_readsOrder_155 (by decide) ?_
          have hs : sX7_readsOrder r = (0, (sX7_readsTwo ((sX7_readsOne (upd (upd r (3) kd) (2) (((upd r (3) kd) 2) + 1))).2) 1).2) := hs.trans (by unfold bX7_readsOrder_27; rw [if_pos c_44_98, if_neg c_124, if_pos c_132])
          exact fin (by rw [hs]; dsimp only; exact hJ) (by rw [hs]) dX7_readsOrder_156
        · skip
          refine lv_aload_n hx hb dX7_readsOrder_135 rfl (lv_at hl 0 rfl) ?_
          refine lv_bipush (v := 42) hx hb dX7_readsOrder_136 (by decide) ?_
          refine kX7_234 X hJ (mX7_takes l E B _ 42 ((sX7_readsTwo ((sX7_readsOne (upd (upd r (3) kd) (2) (((upd r (3) kd) 2) + 1))).2) 1).2) (Pq_X7_readsTwo (Pq_X7_readsOne (Pq_spi0 (Pq_upd (by omega) (by omega) (hpt)) hspb)))) rfl (by omega) (at_M rfl) hl.1 ⟨Nat.le_of_ble_eq_true rfl, Nat.le_of_ble_eq_true rfl⟩ ⟨Nat.le_refl _, Nat.le_refl _⟩ (rest := []) rfl (Nat.le_of_ble_eq_true rfl) dX7_readsOrder_138 (fun H locs hJ => ?_)
          refine lv_if_eq (tgt := 155) hx hb dX7_readsOrder_141 (by decide) (fun c_141 => ?_) (fun c_141 => ?_)
          · skip
            refine lv_iconst (v := 0) hx hb dX7_readsOrder_155 (by decide) ?_
            have hs : sX7_readsOrder r = (0, (sX7_takes ((sX7_readsTwo ((sX7_readsOne (upd (upd r (3) kd) (2) (((upd r (3) kd) 2) + 1))).2) 1).2) 42).2) := hs.trans (by unfold bX7_readsOrder_27; rw [if_pos c_44_98, if_neg c_124, if_neg c_132, if_pos c_141])
            exact fin (by rw [hs]; dsimp only; exact hJ) (by rw [hs]) dX7_readsOrder_156
          · skip
            refine lv_aload_n hx hb dX7_readsOrder_144 rfl (lv_at hl 0 rfl) ?_
            refine kX7_237 X hJ (mX7_readsThree l E B _ ((sX7_takes ((sX7_readsTwo ((sX7_readsOne (upd (upd r (3) kd) (2) (((upd r (3) kd) 2) + 1))).2) 1).2) 42).2) (Pq_takes (Pq_X7_readsTwo (Pq_X7_readsOne (Pq_spi0 (Pq_upd (by omega) (by omega) (hpt)) hspb))))) rfl (by omega) (at_M rfl) hl.1 ⟨Nat.le_of_ble_eq_true rfl, Nat.le_of_ble_eq_true rfl⟩ ⟨Nat.le_refl _, Nat.le_refl _⟩ (rest := []) rfl (Nat.le_of_ble_eq_true rfl) dX7_readsOrder_145 (fun H locs hJ => ?_)
            refine lv_if_eq (tgt := 155) hx hb dX7_readsOrder_148 (by decide) (fun c_148 => ?_) (fun c_148 => ?_)
            · skip
              refine lv_iconst (v := 0) hx hb dX7_readsOrder_155 (by decide) ?_
              have hs : sX7_readsOrder r = (0, (sX7_readsThree ((sX7_takes ((sX7_readsTwo ((sX7_readsOne (upd (upd r (3) kd) (2) (((upd r (3) kd) 2) + 1))).2) 1).2) 42).2)).2) := hs.trans (by unfold bX7_readsOrder_27; rw [if_pos c_44_98, if_neg c_124, if_neg c_132, if_neg c_141, if_pos c_148])
              exact fin (by rw [hs]; dsimp only; exact hJ) (by rw [hs]) dX7_readsOrder_156
            · skip
              refine lv_iconst (v := 1) hx hb dX7_readsOrder_151 (by decide) ?_
              refine lv_goto (tgt := 156) hx hb dX7_readsOrder_152 (by decide) ?_
              have hs : sX7_readsOrder r = (1, (sX7_readsThree ((sX7_takes ((sX7_readsTwo ((sX7_readsOne (upd (upd r (3) kd) (2) (((upd r (3) kd) 2) + 1))).2) 1).2) 42).2)).2) := hs.trans (by unfold bX7_readsOrder_27; rw [if_pos c_44_98, if_neg c_124, if_neg c_132, if_neg c_141, if_neg c_148])
              exact fin (by rw [hs]; dsimp only; exact hJ) (by rw [hs]) dX7_readsOrder_156
    by_cases c_44_99 : kd = 99
    · rw [c_44_99]
      refine lv_tableIn (tgt := 157) hx hb dX7_readsOrder_44 (by decide) (by decide) (off := 113) (by decide) (by decide) ?_
      have hspb : nn (r 2) < 80 := by have h1 := hkd.resolve_left (by rw [c_44_99]; decide); have h2 := hpt.1.1.le; omega
      refine lv_aload_n hx hb dX7_readsOrder_157 rfl (lv_at hl 0 rfl) ?_
      refine kX7_226 X hJ (mX7_readsOne l E B _ (upd (upd r (3) kd) (2) (((upd r (3) kd) 2) + 1)) (Pq_spi0 (Pq_upd (by omega) (by omega) (hpt)) hspb)) rfl (by omega) (at_M rfl) hl.1 ⟨Nat.le_of_ble_eq_true rfl, Nat.le_of_ble_eq_true rfl⟩ ⟨Nat.le_refl _, Nat.le_refl _⟩ (rest := []) rfl (Nat.le_of_ble_eq_true rfl) dX7_readsOrder_158 (fun H locs hJ => ?_)
      refine lv_if_eq (tgt := 184) hx hb dX7_readsOrder_161 (by decide) (fun c_161 => ?_) (fun c_161 => ?_)
      · skip
        refine lv_iconst (v := 0) hx hb dX7_readsOrder_184 (by decide) ?_
        have hs : sX7_readsOrder r = (0, (sX7_readsOne (upd (upd r (3) kd) (2) (((upd r (3) kd) 2) + 1))).2) := hs.trans (by unfold bX7_readsOrder_27; rw [if_neg c_44_98, if_pos c_44_99, if_pos c_161])
        exact fin (by rw [hs]; dsimp only; exact hJ) (by rw [hs]) dX7_readsOrder_185
      · skip
        refine lv_aload_n hx hb dX7_readsOrder_164 rfl (lv_at hl 0 rfl) ?_
        refine lv_bipush (v := 42) hx hb dX7_readsOrder_165 (by decide) ?_
        refine kX7_234 X hJ (mX7_takes l E B _ 42 ((sX7_readsOne (upd (upd r (3) kd) (2) (((upd r (3) kd) 2) + 1))).2) (Pq_X7_readsOne (Pq_spi0 (Pq_upd (by omega) (by omega) (hpt)) hspb))) rfl (by omega) (at_M rfl) hl.1 ⟨Nat.le_of_ble_eq_true rfl, Nat.le_of_ble_eq_true rfl⟩ ⟨Nat.le_refl _, Nat.le_refl _⟩ (rest := []) rfl (Nat.le_of_ble_eq_true rfl) dX7_readsOrder_167 (fun H locs hJ => ?_)
        refine lv_if_eq (tgt := 184) hx hb dX7_readsOrder_170 (by decide) (fun c_170 => ?_) (fun c_170 => ?_)
        · skip
          refine lv_iconst (v := 0) hx hb dX7_readsOrder_184 (by decide) ?_
          have hs : sX7_readsOrder r = (0, (sX7_takes ((sX7_readsOne (upd (upd r (3) kd) (2) (((upd r (3) kd) 2) + 1))).2) 42).2) := hs.trans (by unfold bX7_readsOrder_27; rw [if_neg c_44_98, if_pos c_44_99, if_neg c_161, if_pos c_170])
          exact fin (by rw [hs]; dsimp only; exact hJ) (by rw [hs]) dX7_readsOrder_185
        · skip
          refine lv_aload_n hx hb dX7_readsOrder_173 rfl (lv_at hl 0 rfl) ?_
          refine kX7_237 X hJ (mX7_readsThree l E B _ ((sX7_takes ((sX7_readsOne (upd (upd r (3) kd) (2) (((upd r (3) kd) 2) + 1))).2) 42).2) (Pq_takes (Pq_X7_readsOne (Pq_spi0 (Pq_upd (by omega) (by omega) (hpt)) hspb)))) rfl (by omega) (at_M rfl) hl.1 ⟨Nat.le_of_ble_eq_true rfl, Nat.le_of_ble_eq_true rfl⟩ ⟨Nat.le_refl _, Nat.le_refl _⟩ (rest := []) rfl (Nat.le_of_ble_eq_true rfl) dX7_readsOrder_174 (fun H locs hJ => ?_)
          refine lv_if_eq (tgt := 184) hx hb dX7_readsOrder_177 (by decide) (fun c_177 => ?_) (fun c_177 => ?_)
          · skip
            refine lv_iconst (v := 0) hx hb dX7_readsOrder_184 (by decide) ?_
            have hs : sX7_readsOrder r = (0, (sX7_readsThree ((sX7_takes ((sX7_readsOne (upd (upd r (3) kd) (2) (((upd r (3) kd) 2) + 1))).2) 42).2)).2) := hs.trans (by unfold bX7_readsOrder_27; rw [if_neg c_44_98, if_pos c_44_99, if_neg c_161, if_neg c_170, if_pos c_177])
            exact fin (by rw [hs]; dsimp only; exact hJ) (by rw [hs]) dX7_readsOrder_185
          · skip
            refine lv_iconst (v := 1) hx hb dX7_readsOrder_180 (by decide) ?_
            refine lv_goto (tgt := 185) hx hb dX7_readsOrder_181 (by decide) ?_
            have hs : sX7_readsOrder r = (1, (sX7_readsThree ((sX7_takes ((sX7_readsOne (upd (upd r (3) kd) (2) (((upd r (3) kd) 2) + 1))).2) 42).2)).2) := hs.trans (by unfold bX7_readsOrder_27; rw [if_neg c_44_98, if_pos c_44_99, if_neg c_161, if_neg c_170, if_neg c_177])
            exact fin (by rw [hs]; dsimp only; exact hJ) (by rw [hs]) dX7_readsOrder_185
    by_cases c_44_103 : kd = 103
    · rw [c_44_103]
      refine lv_tableIn (tgt := 186) hx hb dX7_readsOrder_44 (by decide) (by decide) (off := 142) (by decide) (by decide) ?_
      have hspb : nn (r 2) < 80 := by have h1 := hkd.resolve_left (by rw [c_44_103]; decide); have h2 := hpt.1.1.le; omega
      refine lv_aload_n hx hb dX7_readsOrder_186 rfl (lv_at hl 0 rfl) ?_
      refine kX7_226 X hJ (mX7_readsOne l E B _ (upd (upd r (3) kd) (2) (((upd r (3) kd) 2) + 1)) (Pq_spi0 (Pq_upd (by omega) (by omega) (hpt)) hspb)) rfl (by omega) (at_M rfl) hl.1 ⟨Nat.le_of_ble_eq_true rfl, Nat.le_of_ble_eq_true rfl⟩ ⟨Nat.le_refl _, Nat.le_refl _⟩ (rest := []) rfl (Nat.le_of_ble_eq_true rfl) dX7_readsOrder_187 (fun H locs hJ => ?_)
      refine lv_if_eq (tgt := 230) hx hb dX7_readsOrder_190 (by decide) (fun c_190 => ?_) (fun c_190 => ?_)
      · skip
        refine lv_iconst (v := 0) hx hb dX7_readsOrder_230 (by decide) ?_
        have hs : sX7_readsOrder r = (0, (sX7_readsOne (upd (upd r (3) kd) (2) (((upd r (3) kd) 2) + 1))).2) := hs.trans (by unfold bX7_readsOrder_27; rw [if_neg c_44_98, if_neg c_44_99, if_pos c_44_103, if_pos c_190])
        exact fin (by rw [hs]; dsimp only; exact hJ) (by rw [hs]) dX7_readsOrder_231
      · skip
        refine lv_aload_n hx hb dX7_readsOrder_193 rfl (lv_at hl 0 rfl) ?_
        refine lv_bipush (v := 58) hx hb dX7_readsOrder_194 (by decide) ?_
        refine kX7_234 X hJ (mX7_takes l E B _ 58 ((sX7_readsOne (upd (upd r (3) kd) (2) (((upd r (3) kd) 2) + 1))).2) (Pq_X7_readsOne (Pq_spi0 (Pq_upd (by omega) (by omega) (hpt)) hspb))) rfl (by omega) (at_M rfl) hl.1 ⟨Nat.le_of_ble_eq_true rfl, Nat.le_of_ble_eq_true rfl⟩ ⟨Nat.le_refl _, Nat.le_refl _⟩ (rest := []) rfl (Nat.le_of_ble_eq_true rfl) dX7_readsOrder_196 (fun H locs hJ => ?_)
        refine lv_if_eq (tgt := 230) hx hb dX7_readsOrder_199 (by decide) (fun c_199 => ?_) (fun c_199 => ?_)
        · skip
          refine lv_iconst (v := 0) hx hb dX7_readsOrder_230 (by decide) ?_
          have hs : sX7_readsOrder r = (0, (sX7_takes ((sX7_readsOne (upd (upd r (3) kd) (2) (((upd r (3) kd) 2) + 1))).2) 58).2) := hs.trans (by unfold bX7_readsOrder_27; rw [if_neg c_44_98, if_neg c_44_99, if_pos c_44_103, if_neg c_190, if_pos c_199])
          exact fin (by rw [hs]; dsimp only; exact hJ) (by rw [hs]) dX7_readsOrder_231
        · skip
          refine lv_aload_n hx hb dX7_readsOrder_202 rfl (lv_at hl 0 rfl) ?_
          refine lv_iconst (v := 0) hx hb dX7_readsOrder_203 (by decide) ?_
          refine kX7_230 X hJ (mX7_readsTwo l E B _ 0 ((sX7_takes ((sX7_readsOne (upd (upd r (3) kd) (2) (((upd r (3) kd) 2) + 1))).2) 58).2) (Pq_takes (Pq_X7_readsOne (Pq_spi0 (Pq_upd (by omega) (by omega) (hpt)) hspb)))) rfl (by omega) (at_M rfl) hl.1 ⟨Nat.le_of_ble_eq_true rfl, Nat.le_of_ble_eq_true rfl⟩ ⟨Nat.le_refl _, Nat.le_refl _⟩ (rest := []) rfl (Nat.le_of_ble_eq_true rfl) dX7_readsOrder_204 (fun H locs hJ => ?_)
          refine lv_if_eq (tgt := 230) hx hb dX7_readsOrder_207 (by decide) (fun c_207 => ?_) (fun c_207 => ?_)
          · skip
            refine lv_iconst (v := 0) hx hb dX7_readsOrder_230 (by decide) ?_
            have hs : sX7_readsOrder r = (0, (sX7_readsTwo ((sX7_takes ((sX7_readsOne (upd (upd r (3) kd) (2) (((upd r (3) kd) 2) + 1))).2) 58).2) 0).2) := hs.trans (by unfold bX7_readsOrder_27; rw [if_neg c_44_98, if_neg c_44_99, if_pos c_44_103, if_neg c_190, if_neg c_199, if_pos c_207])
            exact fin (by rw [hs]; dsimp only; exact hJ) (by rw [hs]) dX7_readsOrder_231
          · skip
            refine lv_aload_n hx hb dX7_readsOrder_210 rfl (lv_at hl 0 rfl) ?_
            refine lv_bipush (v := 61) hx hb dX7_readsOrder_211 (by decide) ?_
            refine kX7_234 X hJ (mX7_takes l E B _ 61 ((sX7_readsTwo ((sX7_takes ((sX7_readsOne (upd (upd r (3) kd) (2) (((upd r (3) kd) 2) + 1))).2) 58).2) 0).2) (Pq_X7_readsTwo (Pq_takes (Pq_X7_readsOne (Pq_spi0 (Pq_upd (by omega) (by omega) (hpt)) hspb))))) rfl (by omega) (at_M rfl) hl.1 ⟨Nat.le_of_ble_eq_true rfl, Nat.le_of_ble_eq_true rfl⟩ ⟨Nat.le_refl _, Nat.le_refl _⟩ (rest := []) rfl (Nat.le_of_ble_eq_true rfl) dX7_readsOrder_213 (fun H locs hJ => ?_)
            refine lv_if_eq (tgt := 230) hx hb dX7_readsOrder_216 (by decide) (fun c_216 => ?_) (fun c_216 => ?_)
            · skip
              refine lv_iconst (v := 0) hx hb dX7_readsOrder_230 (by decide) ?_
              have hs : sX7_readsOrder r = (0, (sX7_takes ((sX7_readsTwo ((sX7_takes ((sX7_readsOne (upd (upd r (3) kd) (2) (((upd r (3) kd) 2) + 1))).2) 58).2) 0).2) 61).2) := hs.trans (by unfold bX7_readsOrder_27; rw [if_neg c_44_98, if_neg c_44_99, if_pos c_44_103, if_neg c_190, if_neg c_199, if_neg c_207, if_pos c_216])
              exact fin (by rw [hs]; dsimp only; exact hJ) (by rw [hs]) dX7_readsOrder_231
            · skip
              refine lv_aload_n hx hb dX7_readsOrder_219 rfl (lv_at hl 0 rfl) ?_
              refine kX7_237 X hJ (mX7_readsThree l E B _ ((sX7_takes ((sX7_readsTwo ((sX7_takes ((sX7_readsOne (upd (upd r (3) kd) (2) (((upd r (3) kd) 2) + 1))).2) 58).2) 0).2) 61).2) (Pq_takes (Pq_X7_readsTwo (Pq_takes (Pq_X7_readsOne (Pq_spi0 (Pq_upd (by omega) (by omega) (hpt)) hspb)))))) rfl (by omega) (at_M rfl) hl.1 ⟨Nat.le_of_ble_eq_true rfl, Nat.le_of_ble_eq_true rfl⟩ ⟨Nat.le_refl _, Nat.le_refl _⟩ (rest := []) rfl (Nat.le_of_ble_eq_true rfl) dX7_readsOrder_220 (fun H locs hJ => ?_)
              refine lv_if_eq (tgt := 230) hx hb dX7_readsOrder_223 (by decide) (fun c_223 => ?_) (fun c_223 => ?_)
              · skip
                refine lv_iconst (v := 0) hx hb dX7_readsOrder_230 (by decide) ?_
                have hs : sX7_readsOrder r = (0, (sX7_readsThree ((sX7_takes ((sX7_readsTwo ((sX7_takes ((sX7_readsOne (upd (upd r (3) kd) (2) (((upd r (3) kd) 2) + 1))).2) 58).2) 0).2) 61).2)).2) := hs.trans (by unfold bX7_readsOrder_27; rw [if_neg c_44_98, if_neg c_44_99, if_pos c_44_103, if_neg c_190, if_neg c_199, if_neg c_207, if_neg c_216, if_pos c_223])
                exact fin (by rw [hs]; dsimp only; exact hJ) (by rw [hs]) dX7_readsOrder_231
              · skip
                refine lv_iconst (v := 1) hx hb dX7_readsOrder_226 (by decide) ?_
                refine lv_goto (tgt := 231) hx hb dX7_readsOrder_227 (by decide) ?_
                have hs : sX7_readsOrder r = (1, (sX7_readsThree ((sX7_takes ((sX7_readsTwo ((sX7_takes ((sX7_readsOne (upd (upd r (3) kd) (2) (((upd r (3) kd) 2) + 1))).2) 58).2) 0).2) 61).2)).2) := hs.trans (by unfold bX7_readsOrder_27; rw [if_neg c_44_98, if_neg c_44_99, if_pos c_44_103, if_neg c_190, if_neg c_199, if_neg c_207, if_neg c_216, if_neg c_223])
                exact fin (by rw [hs]; dsimp only; exact hJ) (by rw [hs]) dX7_readsOrder_231
    by_cases c_44_104 : kd = 104
    · rw [c_44_104]
      refine lv_tableIn (tgt := 232) hx hb dX7_readsOrder_44 (by decide) (by decide) (off := 188) (by decide) (by decide) ?_
      have hspb : nn (r 2) < 80 := by have h1 := hkd.resolve_left (by rw [c_44_104]; decide); have h2 := hpt.1.1.le; omega
      refine lv_aload_n hx hb dX7_readsOrder_232 rfl (lv_at hl 0 rfl) ?_
      refine kX7_226 X hJ (mX7_readsOne l E B _ (upd (upd r (3) kd) (2) (((upd r (3) kd) 2) + 1)) (Pq_spi0 (Pq_upd (by omega) (by omega) (hpt)) hspb)) rfl (by omega) (at_M rfl) hl.1 ⟨Nat.le_of_ble_eq_true rfl, Nat.le_of_ble_eq_true rfl⟩ ⟨Nat.le_refl _, Nat.le_refl _⟩ (rest := []) rfl (Nat.le_of_ble_eq_true rfl) dX7_readsOrder_233 (fun H locs hJ => ?_)
      refine lv_if_eq (tgt := 260) hx hb dX7_readsOrder_236 (by decide) (fun c_236 => ?_) (fun c_236 => ?_)
      · skip
        refine lv_iconst (v := 0) hx hb dX7_readsOrder_260 (by decide) ?_
        have hs : sX7_readsOrder r = (0, (sX7_readsOne (upd (upd r (3) kd) (2) (((upd r (3) kd) 2) + 1))).2) := hs.trans (by unfold bX7_readsOrder_27; rw [if_neg c_44_98, if_neg c_44_99, if_neg c_44_103, if_pos c_44_104, if_pos c_236])
        exact fin (by rw [hs]; dsimp only; exact hJ) (by rw [hs]) dX7_readsOrder_261
      · skip
        refine lv_aload_n hx hb dX7_readsOrder_239 rfl (lv_at hl 0 rfl) ?_
        refine lv_bipush (v := 58) hx hb dX7_readsOrder_240 (by decide) ?_
        refine kX7_234 X hJ (mX7_takes l E B _ 58 ((sX7_readsOne (upd (upd r (3) kd) (2) (((upd r (3) kd) 2) + 1))).2) (Pq_X7_readsOne (Pq_spi0 (Pq_upd (by omega) (by omega) (hpt)) hspb))) rfl (by omega) (at_M rfl) hl.1 ⟨Nat.le_of_ble_eq_true rfl, Nat.le_of_ble_eq_true rfl⟩ ⟨Nat.le_refl _, Nat.le_refl _⟩ (rest := []) rfl (Nat.le_of_ble_eq_true rfl) dX7_readsOrder_242 (fun H locs hJ => ?_)
        refine lv_if_eq (tgt := 260) hx hb dX7_readsOrder_245 (by decide) (fun c_245 => ?_) (fun c_245 => ?_)
        · skip
          refine lv_iconst (v := 0) hx hb dX7_readsOrder_260 (by decide) ?_
          have hs : sX7_readsOrder r = (0, (sX7_takes ((sX7_readsOne (upd (upd r (3) kd) (2) (((upd r (3) kd) 2) + 1))).2) 58).2) := hs.trans (by unfold bX7_readsOrder_27; rw [if_neg c_44_98, if_neg c_44_99, if_neg c_44_103, if_pos c_44_104, if_neg c_236, if_pos c_245])
          exact fin (by rw [hs]; dsimp only; exact hJ) (by rw [hs]) dX7_readsOrder_261
        · skip
          refine lv_aload_n hx hb dX7_readsOrder_248 rfl (lv_at hl 0 rfl) ?_
          refine lv_iconst (v := 0) hx hb dX7_readsOrder_249 (by decide) ?_
          refine kX7_230 X hJ (mX7_readsTwo l E B _ 0 ((sX7_takes ((sX7_readsOne (upd (upd r (3) kd) (2) (((upd r (3) kd) 2) + 1))).2) 58).2) (Pq_takes (Pq_X7_readsOne (Pq_spi0 (Pq_upd (by omega) (by omega) (hpt)) hspb)))) rfl (by omega) (at_M rfl) hl.1 ⟨Nat.le_of_ble_eq_true rfl, Nat.le_of_ble_eq_true rfl⟩ ⟨Nat.le_refl _, Nat.le_refl _⟩ (rest := []) rfl (Nat.le_of_ble_eq_true rfl) dX7_readsOrder_250 (fun H locs hJ => ?_)
          refine lv_if_eq (tgt := 260) hx hb dX7_readsOrder_253 (by decide) (fun c_253 => ?_) (fun c_253 => ?_)
          · skip
            refine lv_iconst (v := 0) hx hb dX7_readsOrder_260 (by decide) ?_
            have hs : sX7_readsOrder r = (0, (sX7_readsTwo ((sX7_takes ((sX7_readsOne (upd (upd r (3) kd) (2) (((upd r (3) kd) 2) + 1))).2) 58).2) 0).2) := hs.trans (by unfold bX7_readsOrder_27; rw [if_neg c_44_98, if_neg c_44_99, if_neg c_44_103, if_pos c_44_104, if_neg c_236, if_neg c_245, if_pos c_253])
            exact fin (by rw [hs]; dsimp only; exact hJ) (by rw [hs]) dX7_readsOrder_261
          · skip
            refine lv_iconst (v := 1) hx hb dX7_readsOrder_256 (by decide) ?_
            refine lv_goto (tgt := 261) hx hb dX7_readsOrder_257 (by decide) ?_
            have hs : sX7_readsOrder r = (1, (sX7_readsTwo ((sX7_takes ((sX7_readsOne (upd (upd r (3) kd) (2) (((upd r (3) kd) 2) + 1))).2) 58).2) 0).2) := hs.trans (by unfold bX7_readsOrder_27; rw [if_neg c_44_98, if_neg c_44_99, if_neg c_44_103, if_pos c_44_104, if_neg c_236, if_neg c_245, if_neg c_253])
            exact fin (by rw [hs]; dsimp only; exact hJ) (by rw [hs]) dX7_readsOrder_261
    by_cases c_44_108 : kd = 108
    · rw [c_44_108]
      refine lv_tableIn (tgt := 262) hx hb dX7_readsOrder_44 (by decide) (by decide) (off := 218) (by decide) (by decide) ?_
      have hspb : nn (r 2) < 80 := by have h1 := hkd.resolve_left (by rw [c_44_108]; decide); have h2 := hpt.1.1.le; omega
      refine lv_aload_n hx hb dX7_readsOrder_262 rfl (lv_at hl 0 rfl) ?_
      refine kX7_226 X hJ (mX7_readsOne l E B _ (upd (upd r (3) kd) (2) (((upd r (3) kd) 2) + 1)) (Pq_spi0 (Pq_upd (by omega) (by omega) (hpt)) hspb)) rfl (by omega) (at_M rfl) hl.1 ⟨Nat.le_of_ble_eq_true rfl, Nat.le_of_ble_eq_true rfl⟩ ⟨Nat.le_refl _, Nat.le_refl _⟩ (rest := []) rfl (Nat.le_of_ble_eq_true rfl) dX7_readsOrder_263 (fun H locs hJ => ?_)
      have hs : sX7_readsOrder r = ((sX7_readsOne (upd (upd r (3) kd) (2) (((upd r (3) kd) 2) + 1))).1, (sX7_readsOne (upd (upd r (3) kd) (2) (((upd r (3) kd) 2) + 1))).2) := hs.trans (by unfold bX7_readsOrder_27; rw [if_neg c_44_98, if_neg c_44_99, if_neg c_44_103, if_neg c_44_104, if_pos c_44_108])
      exact fin (by rw [hs]; dsimp only; exact hJ) (by rw [hs]) dX7_readsOrder_266
    by_cases c_44_112 : kd = 112
    · rw [c_44_112]
      refine lv_tableIn (tgt := 267) hx hb dX7_readsOrder_44 (by decide) (by decide) (off := 223) (by decide) (by decide) ?_
      have hspb : nn (r 2) < 80 := by have h1 := hkd.resolve_left (by rw [c_44_112]; decide); have h2 := hpt.1.1.le; omega
      refine lv_aload_n hx hb dX7_readsOrder_267 rfl (lv_at hl 0 rfl) ?_
      refine kX7_237 X hJ (mX7_readsThree l E B _ (upd (upd r (3) kd) (2) (((upd r (3) kd) 2) + 1)) (Pq_spi0 (Pq_upd (by omega) (by omega) (hpt)) hspb)) rfl (by omega) (at_M rfl) hl.1 ⟨Nat.le_of_ble_eq_true rfl, Nat.le_of_ble_eq_true rfl⟩ ⟨Nat.le_refl _, Nat.le_refl _⟩ (rest := []) rfl (Nat.le_of_ble_eq_true rfl) dX7_readsOrder_268 (fun H locs hJ => ?_)
      have hs : sX7_readsOrder r = ((sX7_readsThree (upd (upd r (3) kd) (2) (((upd r (3) kd) 2) + 1))).1, (sX7_readsThree (upd (upd r (3) kd) (2) (((upd r (3) kd) 2) + 1))).2) := hs.trans (by unfold bX7_readsOrder_27; rw [if_neg c_44_98, if_neg c_44_99, if_neg c_44_103, if_neg c_44_104, if_neg c_44_108, if_pos c_44_112])
      exact fin (by rw [hs]; dsimp only; exact hJ) (by rw [hs]) dX7_readsOrder_271
    refine rtabOut (tgt := 272) hx hb dX7_readsOrder_44 (by decide) (fun h1 h2 => ?_) ?_
    · have e98 := ne_toInt (n := 98) c_44_98 (by decide); have e99 := ne_toInt (n := 99) c_44_99 (by decide); have e103 := ne_toInt (n := 103) c_44_103 (by decide); have e104 := ne_toInt (n := 104) c_44_104 (by decide); have e108 := ne_toInt (n := 108) c_44_108 (by decide); have e112 := ne_toInt (n := 112) c_44_112 (by decide)
      rcases (show (kd : Int32).toInt = 100 ∨ (kd : Int32).toInt = 101 ∨ (kd : Int32).toInt = 102 ∨ (kd : Int32).toInt = 105 ∨ (kd : Int32).toInt = 106 ∨ (kd : Int32).toInt = 107 ∨ (kd : Int32).toInt = 109 ∨ (kd : Int32).toInt = 110 ∨ (kd : Int32).toInt = 111 by omega) with hq | hq | hq | hq | hq | hq | hq | hq | hq <;> (rw [hq]; decide)
    refine lv_aload_n hx hb dX7_readsOrder_272 rfl (lv_at hl 0 rfl) ?_
    refine lv_dup hx hb dX7_readsOrder_273 rfl ?_
    refine gX7_199 X hJ (w := upd (upd r (3) kd) (2) (((upd r (3) kd) 2) + 1)) rfl dX7_readsOrder_274 ?_
    refine lv_iconst (v := 1) hx hb dX7_readsOrder_277 (by decide) ?_
    refine lv_isub hx hb dX7_readsOrder_278 ?_
    refine pX7_199 X hJ  dX7_readsOrder_279 (fun H locs hJ => ?_)
    refine lv_iconst (v := 0) hx hb dX7_readsOrder_282 (by decide) ?_
    have hs : sX7_readsOrder r = (0, upd (upd (upd r (3) kd) (2) (((upd r (3) kd) 2) + 1)) (2) (((upd (upd r (3) kd) (2) (((upd r (3) kd) 2) + 1)) 2) - 1)) := hs.trans (by unfold bX7_readsOrder_27; rw [if_neg c_44_98, if_neg c_44_99, if_neg c_44_103, if_neg c_44_104, if_neg c_44_108, if_neg c_44_112])
    exact fin (by rw [hs]; dsimp only; exact hJ) (by rw [hs]) dX7_readsOrder_283
  refine lv_aload_n hx hb dX7_readsOrder_0 rfl (lv_at hl 0 rfl) ?_
  refine lv_aload_n hx hb dX7_readsOrder_1 rfl (lv_at hl 0 rfl) ?_
  refine gX7_199 X hJ (w := r) rfl dX7_readsOrder_2 ?_
  refine lv_aload_n hx hb dX7_readsOrder_5 rfl (lv_at hl 0 rfl) ?_
  refine gX7_156 X hJ (w := r) rfl dX7_readsOrder_6 ?_
  refine lv_icmp_ge (tgt := 25) hx hb dX7_readsOrder_9 (by decide) (fun c_9 => ?_) (fun c_9 => ?_)
  · skip
    refine lv_bipush (v := 32) hx hb dX7_readsOrder_25 (by decide) ?_
    have hs : sX7_readsOrder r = bX7_readsOrder_27 r 32 := by unfold sX7_readsOrder; rw [if_pos c_9]
    exact bk_27 32 (by first | exact ⟨pk_nc _, pk_fc _⟩ | exact ⟨by decide, by decide⟩) (by first | exact Or.inl rfl | exact Or.inr hsp.1) _ _ _ hJ (lv_sub hl [0] rfl) hs
  · skip
    have hsp := sp_lt c_9 hpt
    refine lv_aload_n hx hb dX7_readsOrder_12 rfl (lv_at hl 0 rfl) ?_
    refine gX7_17 X hJ (w := r) rfl dX7_readsOrder_13 ?_
    refine lv_aload_n hx hb dX7_readsOrder_16 rfl (lv_at hl 0 rfl) ?_
    refine gX7_199 X hJ (w := r) rfl dX7_readsOrder_17 ?_
    refine cvt (y := nI (nn (r 2))) (hpt.1.2.eq) ?_
    refine ld_text X hJ (w := r) rfl (j := nn (r 2)) (rfl) (by omega) dX7_readsOrder_20 ?_
    refine lv_i2c hx hb dX7_readsOrder_21 rfl ?_
    refine lv_goto (tgt := 27) hx hb dX7_readsOrder_22 (by decide) ?_
    have hs : sX7_readsOrder r = bX7_readsOrder_27 r (((r (100 + (nn (r 2)))).toUInt32 % 65536).toInt32) := by unfold sX7_readsOrder; rw [if_neg c_9]
    exact bk_27 (((r (100 + (nn (r 2)))).toUInt32 % 65536).toInt32) (by first | exact ⟨pk_nc _, pk_fc _⟩ | exact ⟨by decide, by decide⟩) (by first | exact Or.inl rfl | exact Or.inr hsp.1) _ _ _ hJ (lv_sub hl [0] rfl) hs

theorem Pq_p2 {β : Type} {s : Nat} {v : β} {w : Row} (h : Pq s w) : Pq s (v, w).2 := h
theorem Pq_both {s : Nat} {x : Int32 × Row} (h : Pq (s + 1) x.2) : Pq s x.2 ∧ (¬ x.1 = 0 → Pq (s + 1) x.2) := ⟨Pq_w (Nat.le_succ s) h, fun _ => h⟩
theorem Pq_ord {s : Nat} {r : Row} {kd : Int32} (h : Pq s r) (hl : nn (r 2) < 80) : Pq (s + 1) (upd (upd r (3) kd) (2) (((upd r (3) kd) 2) + 1)) := Pq_spi (Pq_upd (by omega) (by omega) h) hl
theorem Pq_back {s : Nat} {r : Row} {kd : Int32} (h : Pq s r) : Pq s (upd (upd (upd r (3) kd) (2) (((upd r (3) kd) 2) + 1)) (2) (((upd (upd r (3) kd) (2) (((upd r (3) kd) 2) + 1)) 2) - 1)) := by
  have e : ∀ v : Int32, v + 1 - 1 = v := fun v => Int32.add_sub_cancel v 1
  have e2 : ((upd (upd r (3) kd) (2) (((upd r (3) kd) 2) + 1)) 2) - 1 = r 2 := e _
  rw [e2]
  refine ⟨⟨h.1.1, h.1.2⟩, h.2⟩
theorem Pq_rd27 {s : Nat} {r : Row} {kd : Int32} (h : Pq s r) (hk : kd = 32 ∨ nn (r 2) < nn (r 1)) : Pq s (bX7_readsOrder_27 r kd).2 ∧ (¬ (bX7_readsOrder_27 r kd).1 = 0 → Pq (s + 1) (bX7_readsOrder_27 r kd).2) := by
  unfold bX7_readsOrder_27
  have h80 := h.1.1.le
  by_cases c0 : kd = 98
  · rw [if_pos c0]
    have hl : nn (r 2) < 80 := by have h1 := hk.resolve_left (by rw [c0]; decide); omega
    refine Pq_both ?_
    exact Pq_i2 (Pq_p2 (Pq_X7_readsOne (Pq_ord h hl))) (Pq_i2 (Pq_p2 (Pq_X7_readsTwo (Pq_X7_readsOne (Pq_ord h hl)))) (Pq_i2 (Pq_p2 (Pq_takes (Pq_X7_readsTwo (Pq_X7_readsOne (Pq_ord h hl))))) (Pq_i2 (Pq_p2 (Pq_X7_readsThree (Pq_takes (Pq_X7_readsTwo (Pq_X7_readsOne (Pq_ord h hl)))))) (Pq_p2 (Pq_X7_readsThree (Pq_takes (Pq_X7_readsTwo (Pq_X7_readsOne (Pq_ord h hl)))))))))
  rw [if_neg c0]
  by_cases c1 : kd = 99
  · rw [if_pos c1]
    have hl : nn (r 2) < 80 := by have h1 := hk.resolve_left (by rw [c1]; decide); omega
    refine Pq_both ?_
    exact Pq_i2 (Pq_p2 (Pq_X7_readsOne (Pq_ord h hl))) (Pq_i2 (Pq_p2 (Pq_takes (Pq_X7_readsOne (Pq_ord h hl)))) (Pq_i2 (Pq_p2 (Pq_X7_readsThree (Pq_takes (Pq_X7_readsOne (Pq_ord h hl))))) (Pq_p2 (Pq_X7_readsThree (Pq_takes (Pq_X7_readsOne (Pq_ord h hl)))))))
  rw [if_neg c1]
  by_cases c2 : kd = 103
  · rw [if_pos c2]
    have hl : nn (r 2) < 80 := by have h1 := hk.resolve_left (by rw [c2]; decide); omega
    refine Pq_both ?_
    exact Pq_i2 (Pq_p2 (Pq_X7_readsOne (Pq_ord h hl))) (Pq_i2 (Pq_p2 (Pq_takes (Pq_X7_readsOne (Pq_ord h hl)))) (Pq_i2 (Pq_p2 (Pq_X7_readsTwo (Pq_takes (Pq_X7_readsOne (Pq_ord h hl))))) (Pq_i2 (Pq_p2 (Pq_takes (Pq_X7_readsTwo (Pq_takes (Pq_X7_readsOne (Pq_ord h hl)))))) (Pq_i2 (Pq_p2 (Pq_X7_readsThree (Pq_takes (Pq_X7_readsTwo (Pq_takes (Pq_X7_readsOne (Pq_ord h hl))))))) (Pq_p2 (Pq_X7_readsThree (Pq_takes (Pq_X7_readsTwo (Pq_takes (Pq_X7_readsOne (Pq_ord h hl)))))))))))
  rw [if_neg c2]
  by_cases c3 : kd = 104
  · rw [if_pos c3]
    have hl : nn (r 2) < 80 := by have h1 := hk.resolve_left (by rw [c3]; decide); omega
    refine Pq_both ?_
    exact Pq_i2 (Pq_p2 (Pq_X7_readsOne (Pq_ord h hl))) (Pq_i2 (Pq_p2 (Pq_takes (Pq_X7_readsOne (Pq_ord h hl)))) (Pq_i2 (Pq_p2 (Pq_X7_readsTwo (Pq_takes (Pq_X7_readsOne (Pq_ord h hl))))) (Pq_p2 (Pq_X7_readsTwo (Pq_takes (Pq_X7_readsOne (Pq_ord h hl)))))))
  rw [if_neg c3]
  by_cases c4 : kd = 108
  · rw [if_pos c4]
    have hl : nn (r 2) < 80 := by have h1 := hk.resolve_left (by rw [c4]; decide); omega
    refine Pq_both ?_
    exact Pq_p2 (Pq_X7_readsOne (Pq_ord h hl))
  rw [if_neg c4]
  by_cases c5 : kd = 112
  · rw [if_pos c5]
    have hl : nn (r 2) < 80 := by have h1 := hk.resolve_left (by rw [c5]; decide); omega
    refine Pq_both ?_
    exact Pq_p2 (Pq_X7_readsThree (Pq_ord h hl))
  rw [if_neg c5]
  exact ⟨Pq_p2 (Pq_back h), fun q => absurd rfl q⟩

theorem Pq_rd {s : Nat} {r : Row} (h : Pq s r) : Pq s (sX7_readsOrder r).2 ∧ (¬ (sX7_readsOrder r).1 = 0 → Pq (s + 1) (sX7_readsOrder r).2) := by
  unfold sX7_readsOrder
  by_cases c : r 1 ≤ r 2
  · rw [if_pos c]; exact Pq_rd27 h (Or.inl rfl)
  · rw [if_neg c]; exact Pq_rd27 h (Or.inr (sp_lt c (Pq_w (Nat.zero_le s) h)).1)
theorem Pq_readsOrder {s : Nat} {r : Row} (h : Pq s r) : Pq s (sX7_readsOrder r).2 := (Pq_rd h).1
theorem nn_one : nn (1 : Int32) = 1 := by decide
theorem b01_nn {v : Int32} (h : b01 v) : nn v ≤ 1 := by rcases h with h | h <;> (rw [h]; decide)
theorem b01_1 {v : Int32} (h : b01 v) (h0 : ¬ v = 0) : nn v = 1 := by rcases h with h | h <;> first | exact absurd h h0 | (rw [h]; decide)
def bX7_fault_7  : Nat → Row → Int32 → Int32 × Row
  | 0, u7, _ => (0, u7)
  | n + 1, u7, mo => if mo = 0 then (if u7 2 = u7 1 then (((-6), u7)) else ((u7 2, u7))) else (if (sX7_readsOrder u7).1 = 0 then ((((sX7_readsOrder u7).2) 2, (sX7_readsOrder u7).2)) else (bX7_fault_7  n ((sX7_takes ((sX7_readsOrder u7).2) 59).2) ((sX7_takes ((sX7_readsOrder u7).2) 59).1)))
def sX7_fault (r : Row) : Int32 × Row := bX7_fault_7  82 (upd r (2) 0) 1
set_option maxHeartbeats 4000000 in
set_option maxRecDepth 100000 in
theorem mX7_fault (l : Launch) (E : EE) (B : Nat) (g : GS)  (r : Row)  (hpt : Pq 0 r) : CG l yX7_fault cX7_fault 2 (some .int) 6 130 E B [.ref (B + 459)] (upR g r) (some (.int (sX7_fault r).1)) (upR g ((sX7_fault r).2)) := by
  refine mkI (own := RX7) (ty := .int) rfl (by decide) rfl (rfl) (Nat.le_of_ble_eq_true rfl) (fun P_ e_ s_ m_ a_ below meth cd Q X fin ls hl hJ => ?_)
  have hx := X.1
  have hb := X.2.1
  have hl : lv_has ls 2 [(0, .ref (B + 459))] := hl
  have bk_7 : ∀ (n : Nat) (u7 : Row)  (mo : Int32), nn mo + (80 - nn (u7 2)) < n → (Pq 0 u7) → (b01 mo) → ∀ (H : Heap) (locs : List Loc) (ls : Array Slot), JG E B s_ (upR g u7) H locs → lv_has ls 2 [(0, .ref (B + 459)), (1, .int mo)] → sX7_fault r = bX7_fault_7  n u7 mo → W P_ l e_ (rmm 6 130 0 0) s_ m_ a_ below meth cd H locs 0 0 Q (F0 m_ 7 ls []) := by
    intro n
    induction n with
    | zero => intro u7 mo hm; exact absurd hm (Nat.not_lt_zero _)
    | succ n ih =>
      intro u7 mo hm hpt hmo H locs ls hJ hl hs
      refine lv_iload_n hx hb dX7_fault_7 rfl (lv_at hl 1 rfl) ?_
      refine lv_if_eq (tgt := 33) hx hb dX7_fault_8 (by decide) (fun c_8 => ?_) (fun c_8 => ?_)
      · skip
        refine lv_aload_n hx hb dX7_fault_33 rfl (lv_at hl 0 rfl) ?_
        refine gX7_199 X hJ (w := u7) rfl dX7_fault_34 ?_
        refine lv_aload_n hx hb dX7_fault_37 rfl (lv_at hl 0 rfl) ?_
        refine gX7_156 X hJ (w := u7) rfl dX7_fault_38 ?_
        refine lv_icmp_ne (tgt := 49) hx hb dX7_fault_41 (by decide) (fun c_41 => ?_) (fun c_41 => ?_)
        · skip
          refine lv_aload_n hx hb dX7_fault_49 rfl (lv_at hl 0 rfl) ?_
          refine gX7_199 X hJ (w := u7) rfl dX7_fault_50 ?_
          have hs : sX7_fault r = (u7 2, u7) := hs.trans (by rw [bX7_fault_7, if_pos c_8, if_neg c_41])
          exact fin (by rw [hs]; dsimp only; exact hJ) (by rw [hs]) dX7_fault_53
        · skip
          refine lv_bipush (v := (-6)) hx hb dX7_fault_44 (by decide) ?_
          refine lv_goto (tgt := 53) hx hb dX7_fault_46 (by decide) ?_
          have hs : sX7_fault r = ((-6), u7) := hs.trans (by rw [bX7_fault_7, if_pos c_8, if_pos c_41])
          exact fin (by rw [hs]; dsimp only; exact hJ) (by rw [hs]) dX7_fault_53
      · skip
        refine lv_aload_n hx hb dX7_fault_11 rfl (lv_at hl 0 rfl) ?_
        refine kX7_240 X hJ (mX7_readsOrder l E B _ u7 (hpt)) rfl (by omega) (at_M rfl) hl.1 ⟨Nat.le_of_ble_eq_true rfl, Nat.le_of_ble_eq_true rfl⟩ ⟨Nat.le_refl _, Nat.le_refl _⟩ (rest := []) rfl (Nat.le_of_ble_eq_true rfl) dX7_fault_12 (fun H locs hJ => ?_)
        refine lv_if_ne (tgt := 23) hx hb dX7_fault_15 (by decide) (fun c_15 => ?_) (fun c_15 => ?_)
        · skip
          refine lv_aload_n hx hb dX7_fault_23 rfl (lv_at hl 0 rfl) ?_
          refine lv_bipush (v := 59) hx hb dX7_fault_24 (by decide) ?_
          refine kX7_234 X hJ (mX7_takes l E B _ 59 ((sX7_readsOrder u7).2) (Pq_readsOrder (hpt))) rfl (by omega) (at_M rfl) hl.1 ⟨Nat.le_of_ble_eq_true rfl, Nat.le_of_ble_eq_true rfl⟩ ⟨Nat.le_refl _, Nat.le_refl _⟩ (rest := []) rfl (Nat.le_of_ble_eq_true rfl) dX7_fault_26 (fun H locs hJ => ?_)
          refine lv_istore_n (lv' := [(1, .int ((sX7_takes ((sX7_readsOrder u7).2) 59).1)), (0, .ref (B + 459))]) hx hb dX7_fault_29 rfl hl (by decide) rfl (fun ls hl => ?_)
          refine lv_goto (tgt := 7) hx hb dX7_fault_30 (by decide) ?_
          have hs : sX7_fault r = bX7_fault_7  n ((sX7_takes ((sX7_readsOrder u7).2) 59).2) ((sX7_takes ((sX7_readsOrder u7).2) 59).1) := hs.trans (by rw [bX7_fault_7, if_neg c_8, if_neg c_15])
          exact ih ((sX7_takes ((sX7_readsOrder u7).2) 59).2) ((sX7_takes ((sX7_readsOrder u7).2) 59).1) (by have a := Pq_takes (x := 59) ((Pq_rd (s := nn (u7 2)) ⟨hpt.1, Nat.le_refl _⟩).2 c_15); have b := b01_nn (b01_takes (r := (sX7_readsOrder u7).2) (x := 59)); have d := a.2; have e := b01_1 hmo c_8; have f := hpt.1.2.le; have f2 := (Pq_takes (x := 59) (Pq_readsOrder hpt)).1.2.le; omega) (Pq_takes (Pq_readsOrder (hpt))) (b01_takes) _ _ _ hJ (lv_sub hl [1, 0] rfl) hs
        · skip
          refine lv_aload_n hx hb dX7_fault_18 rfl (lv_at hl 0 rfl) ?_
          refine gX7_199 X hJ (w := (sX7_readsOrder u7).2) rfl dX7_fault_19 ?_
          have hs : sX7_fault r = (((sX7_readsOrder u7).2) 2, (sX7_readsOrder u7).2) := hs.trans (by rw [bX7_fault_7, if_neg c_8, if_pos c_15])
          exact fin (by rw [hs]; dsimp only; exact hJ) (by rw [hs]) dX7_fault_22
  refine lv_aload_n hx hb dX7_fault_0 rfl (lv_at hl 0 rfl) ?_
  refine lv_iconst (v := 0) hx hb dX7_fault_1 (by decide) ?_
  refine pX7_199 X hJ  dX7_fault_2 (fun H locs hJ => ?_)
  refine lv_iconst (v := 1) hx hb dX7_fault_5 (by decide) ?_
  refine lv_istore_n (lv' := [(1, .int 1), (0, .ref (B + 459))]) hx hb dX7_fault_6 rfl hl (by decide) rfl (fun ls hl => ?_)
  have hs : sX7_fault r = bX7_fault_7  82 (upd r (2) 0) 1 := by unfold sX7_fault; rfl
  exact bk_7 82 (upd r (2) 0) 1 (by have e := nn_one; omega) (Pq_2 ⟨by decide, by decide⟩ (Nat.zero_le _) (hpt)) (Or.inr rfl) _ _ _ hJ (lv_sub hl [1, 0] rfl) hs

