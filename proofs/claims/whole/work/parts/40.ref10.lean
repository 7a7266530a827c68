theorem sp_lt {r : Row} (h : ¬ r 1 ≤ r 2) (hp : Pq 0 r) : nn (r 2) < nn (r 1) ∧ nn (r 2) < 80 := by
  rw [Int32.le_iff_toInt_le] at h
  have a := nn_toInt hp.1.1.1
  have b := nn_toInt hp.1.2.1
  have := hp.1.1.le
  omega
def sX7_isHere (r : Row) (x : Int32) (y : Int32) : Int32 := if r 1 ≤ r 2 then (0) else (if sX7_in ((r (100 + (nn (r 2)))).toInt64) x.toInt64 y.toInt64 = 0 then (0) else (1))
set_option maxHeartbeats 4000000 in
set_option maxRecDepth 100000 in
theorem mX7_isHere (l : Launch) (E : EE) (B : Nat) (g : GS) (x : Int32) (y : Int32) (r : Row)  (hw : g.2.2.2 = r) (hpt : Pq 0 r) : CG l yX7_isHere cX7_isHere 3 (some .boolean) 1 25 E B [.ref (B + 459), .int x, .int y] g (some (.int (sX7_isHere r x y))) g := by
  refine mkI (own := RX7) (ty := .boolean) rfl (by decide) rfl (by unfold sX7_isHere; (repeat' split) <;> rfl) (Nat.le_of_ble_eq_true rfl) (fun P_ e_ s_ m_ a_ below meth cd Q X fin ls hl hJ => ?_)
  have hx := X.1
  have hb := X.2.1
  have hl : lv_has ls 3 [(0, .ref (B + 459)), (1, .int x), (2, .int y)] := hl
  refine lv_aload_n hx hb dX7_isHere_0 rfl (lv_at hl 0 rfl) ?_
  refine gX7_199 X hJ (w := r) hw dX7_isHere_1 ?_
  refine lv_aload_n hx hb dX7_isHere_4 rfl (lv_at hl 0 rfl) ?_
  refine gX7_156 X hJ (w := r) hw dX7_isHere_5 ?_
  refine lv_icmp_ge (tgt := 35) hx hb dX7_isHere_8 (by decide) (fun c_8 => ?_) (fun c_8 => ?_)
  · skip
    refine lv_iconst (v := 0) hx hb dX7_isHere_35 (by decide) ?_
    have hs : sX7_isHere r x y = 0 := by unfold sX7_isHere; rw [if_pos c_8]
    exact fin hJ (by rw [hs]) dX7_isHere_36
  · skip
    have hsp := sp_lt c_8 hpt
    refine lv_aload_n hx hb dX7_isHere_11 rfl (lv_at hl 0 rfl) ?_
    refine gX7_17 X hJ (w := r) hw dX7_isHere_12 ?_
    refine lv_aload_n hx hb dX7_isHere_15 rfl (lv_at hl 0 rfl) ?_
    refine gX7_199 X hJ (w := r) hw dX7_isHere_16 ?_
    refine cvt (y := nI (nn (r 2))) (hpt.1.2.eq) ?_
    refine ld_text X hJ (w := r) hw (j := nn (r 2)) (rfl) (by omega) dX7_isHere_19 ?_
    refine lv_i2l hx hb dX7_isHere_20 rfl ?_
    refine lv_iload_n hx hb dX7_isHere_21 rfl (lv_at hl 1 rfl) ?_
    refine lv_i2l hx hb dX7_isHere_22 rfl ?_
    refine lv_iload_n hx hb dX7_isHere_23 rfl (lv_at hl 2 rfl) ?_
    refine lv_i2l hx hb dX7_isHere_24 rfl ?_
    refine kX7_81 X hJ (mX7_in l E B _ ((r (100 + (nn (r 2)))).toInt64) x.toInt64 y.toInt64) rfl hl.1 ⟨Nat.le_of_ble_eq_true rfl, Nat.le_of_ble_eq_true rfl⟩ ⟨Nat.le_refl _, Nat.le_refl _⟩ (rest := []) rfl (Nat.le_of_ble_eq_true rfl) dX7_isHere_25 (fun H locs hJ => ?_)
    refine lv_if_eq (tgt := 35) hx hb dX7_isHere_28 (by decide) (fun c_28 => ?_) (fun c_28 => ?_)
    · skip
      refine lv_iconst (v := 0) hx hb dX7_isHere_35 (by decide) ?_
      have hs : sX7_isHere r x y = 0 := by unfold sX7_isHere; rw [if_neg c_8, if_pos c_28]
      exact fin hJ (by rw [hs]) dX7_isHere_36
    · skip
      refine lv_iconst (v := 1) hx hb dX7_isHere_31 (by decide) ?_
      refine lv_goto (tgt := 36) hx hb dX7_isHere_32 (by decide) ?_
      have hs : sX7_isHere r x y = 1 := by unfold sX7_isHere; rw [if_neg c_8, if_neg c_28]
      exact fin hJ (by rw [hs]) dX7_isHere_36

theorem here_lt {r : Row} {x y : Int32} (h : ¬ sX7_isHere r x y = 0) (hp : Pq 0 r) : nn (r 2) < nn (r 1) ∧ nn (r 2) < 80 := by
  unfold sX7_isHere at h
  by_cases c : r 1 ≤ r 2
  · rw [if_pos c] at h; exact absurd rfl h
  · exact sp_lt c hp
theorem b01_here {r : Row} {x y : Int32} : b01 (sX7_isHere r x y) := by
  unfold sX7_isHere
  by_cases c : r 1 ≤ r 2
  · rw [if_pos c]; exact Or.inl rfl
  rw [if_neg c]
  by_cases d : sX7_in (r (100 + (nn (r 2)))).toInt64 x.toInt64 y.toInt64 = 0
  · rw [if_pos d]; exact Or.inl rfl
  · rw [if_neg d]; exact Or.inr rfl
theorem Pq_spi {s : Nat} {r : Row} (h : Pq s r) (hl : nn (r 2) < 80) : Pq (s + 1) (upd r 2 (r 2 + 1)) := by
  have a := smi h.1.2 hl (by omega)
  exact Pq_2 a.1 (by have := h.2; omega) h
theorem Pq_w {s s' : Nat} {r : Row} (hs : s' ≤ s) (h : Pq s r) : Pq s' r := ⟨h.1, Nat.le_trans hs h.2⟩
theorem Pq_sp0 {s : Nat} {r : Row} (h : Pq s r) : Pq s (upd r 2 (r 2 + 0)) := by
  have e : r 2 + 0 = r 2 := Int32.add_zero _
  rw [e]
  exact Pq_2 h.1.2 h.2 h
def sX7_takes (r : Row) (x : Int32) : Int32 × Row := if sX7_isHere r x x = 0 then ((sX7_isHere r x x, upd r (2) ((r 2) + 0))) else ((sX7_isHere r x x, upd r (2) ((r 2) + 1)))
theorem b01_takes {r : Row} {x : Int32} : b01 (sX7_takes r x).1 := b01_i2 b01_here b01_here
set_option maxHeartbeats 4000000 in
set_option maxRecDepth 100000 in
theorem mX7_takes (l : Launch) (E : EE) (B : Nat) (g : GS) (x : Int32) (r : Row)  (hpt : Pq 0 r) : CG l yX7_takes cX7_takes 3 (some .boolean) 2 47 E B [.ref (B + 459), .int x] (upR g r) (some (.int (sX7_takes r x).1)) (upR g ((sX7_takes r x).2)) := by
  refine mkI (own := RX7) (ty := .boolean) rfl (by decide) rfl (b01_takes.nar) (Nat.le_of_ble_eq_true rfl) (fun P_ e_ s_ m_ a_ below meth cd Q X fin ls hl hJ => ?_)
  have hx := X.1
  have hb := X.2.1
  have hl : lv_has ls 3 [(0, .ref (B + 459)), (1, .int x)] := hl
  refine lv_aload_n hx hb dX7_takes_0 rfl (lv_at hl 0 rfl) ?_
  refine lv_iload_n hx hb dX7_takes_1 rfl (lv_at hl 1 rfl) ?_
  refine lv_iload_n hx hb dX7_takes_2 rfl (lv_at hl 1 rfl) ?_
  refine kX7_202 X hJ (mX7_isHere l E B _ x x r rfl (hpt)) rfl (by omega) (at_M rfl) hl.1 ⟨Nat.le_of_ble_eq_true rfl, Nat.le_of_ble_eq_true rfl⟩ ⟨Nat.le_refl _, Nat.le_refl _⟩ (rest := []) rfl (Nat.le_of_ble_eq_true rfl) dX7_takes_3 (fun H locs hJ => ?_)
  refine lv_istore_n (lv' := [(2, .int (sX7_isHere r x x)), (0, .ref (B + 459)), (1, .int x)]) hx hb dX7_takes_6 rfl hl (by decide) rfl (fun ls hl => ?_)
  refine lv_aload_n hx hb dX7_takes_7 rfl (lv_at hl 1 rfl) ?_
  refine lv_dup hx hb dX7_takes_8 rfl ?_
  refine gX7_199 X hJ (w := r) rfl dX7_takes_9 ?_
  refine lv_iload_n hx hb dX7_takes_12 rfl (lv_at hl 0 rfl) ?_
  refine lv_if_eq (tgt := 20) hx hb dX7_takes_13 (by decide) (fun c_13 => ?_) (fun c_13 => ?_)
  · skip
    refine lv_iconst (v := 0) hx hb dX7_takes_20 (by decide) ?_
    refine lv_iadd hx hb dX7_takes_21 ?_
    refine pX7_199 X hJ  dX7_takes_22 (fun H locs hJ => ?_)
    refine lv_iload_n hx hb dX7_takes_25 rfl (lv_at hl 0 rfl) ?_
    have hs : sX7_takes r x = (sX7_isHere r x x, upd r (2) ((r 2) + 0)) := by unfold sX7_takes; rw [if_pos c_13]
    exact fin (by rw [hs]; dsimp only; exact hJ) (by rw [hs]) dX7_takes_26
  · skip
    refine lv_iconst (v := 1) hx hb dX7_takes_16 (by decide) ?_
    refine lv_goto (tgt := 21) hx hb dX7_takes_17 (by decide) ?_
    refine lv_iadd hx hb dX7_takes_21 ?_
    refine pX7_199 X hJ  dX7_takes_22 (fun H locs hJ => ?_)
    refine lv_iload_n hx hb dX7_takes_25 rfl (lv_at hl 0 rfl) ?_
    have hs : sX7_takes r x = (sX7_isHere r x x, upd r (2) ((r 2) + 1)) := by unfold sX7_takes; rw [if_neg c_13]
    exact fin (by rw [hs]; dsimp only; exact hJ) (by rw [hs]) dX7_takes_26

theorem Pq_takes {s : Nat} {r : Row} {x : Int32} (h : Pq s r) : Pq s (sX7_takes r x).2 := by
  unfold sX7_takes
  exact Pq_j2 (fun _ => Pq_sp0 h) (fun c => Pq_w (Nat.le_succ s) (Pq_spi h (here_lt c (Pq_w (Nat.zero_le s) h)).2))
def sX7_digit (r : Row) : Int32 × Row := if sX7_isHere r 48 57 = 0 then (((-6), upd r (2) ((r 2) + 0))) else (if (r (100 + (nn (r 2)))) - 48 = (-6) then (((r (100 + (nn (r 2)))) - 48, upd r (2) ((r 2) + 0))) else (((r (100 + (nn (r 2)))) - 48, upd r (2) ((r 2) + 1))))
set_option maxHeartbeats 4000000 in
set_option maxRecDepth 100000 in
theorem mX7_digit (l : Launch) (E : EE) (B : Nat) (g : GS)  (r : Row)  (hpt : Pq 0 r) : CG l yX7_digit cX7_digit 2 (some .int) 2 47 E B [.ref (B + 459)] (upR g r) (some (.int (sX7_digit r).1)) (upR g ((sX7_digit r).2)) := by
  refine mkI (own := RX7) (ty := .int) rfl (by decide) rfl (rfl) (Nat.le_of_ble_eq_true rfl) (fun P_ e_ s_ m_ a_ below meth cd Q X fin ls hl hJ => ?_)
  have hx := X.1
  have hb := X.2.1
  have hl : lv_has ls 2 [(0, .ref (B + 459))] := hl
  refine lv_aload_n hx hb dX7_digit_0 rfl (lv_at hl 0 rfl) ?_
  refine lv_bipush (v := 48) hx hb dX7_digit_1 (by decide) ?_
  refine lv_bipush (v := 57) hx hb dX7_digit_3 (by decide) ?_
  refine kX7_202 X hJ (mX7_isHere l E B _ 48 57 r rfl (hpt)) rfl (by omega) (at_M rfl) hl.1 ⟨Nat.le_of_ble_eq_true rfl, Nat.le_of_ble_eq_true rfl⟩ ⟨Nat.le_refl _, Nat.le_refl _⟩ (rest := []) rfl (Nat.le_of_ble_eq_true rfl) dX7_digit_5 (fun H locs hJ => ?_)
  refine lv_if_eq (tgt := 26) hx hb dX7_digit_8 (by decide) (fun c_8 => ?_) (fun c_8 => ?_)
  · skip
    refine lv_bipush (v := (-6)) hx hb dX7_digit_26 (by decide) ?_
    refine lv_istore_n (lv' := [(1, .int (-6)), (0, .ref (B + 459))]) hx hb dX7_digit_28 rfl hl (by decide) rfl (fun ls hl => ?_)
    refine lv_aload_n hx hb dX7_digit_29 rfl (lv_at hl 1 rfl) ?_
    refine lv_dup hx hb dX7_digit_30 rfl ?_
    refine gX7_199 X hJ (w := r) rfl dX7_digit_31 ?_
    refine lv_iload_n hx hb dX7_digit_34 rfl (lv_at hl 0 rfl) ?_
    refine lv_bipush (v := (-6)) hx hb dX7_digit_35 (by decide) ?_
    refine lv_icmp_ne (tgt := 44) hx hb dX7_digit_37 (by decide) (fun c_37 => ?_) (fun c_37 => ?_)
    · exact absurd c_37 (by decide)
    · skip
      refine lv_iconst (v := 0) hx hb dX7_digit_40 (by decide) ?_
      refine lv_goto (tgt := 45) hx hb dX7_digit_41 (by decide) ?_
      refine lv_iadd hx hb dX7_digit_45 ?_
      refine pX7_199 X hJ  dX7_digit_46 (fun H locs hJ => ?_)
      refine lv_iload_n hx hb dX7_digit_49 rfl (lv_at hl 0 rfl) ?_
      have hs : sX7_digit r = ((-6), upd r (2) ((r 2) + 0)) := by unfold sX7_digit; rw [if_pos c_8]
      exact fin (by rw [hs]; dsimp only; exact hJ) (by rw [hs]) dX7_digit_50
  · skip
    have hsp := here_lt c_8 hpt
    refine lv_aload_n hx hb dX7_digit_11 rfl (lv_at hl 0 rfl) ?_
    refine gX7_17 X hJ (w := r) rfl dX7_digit_12 ?_
    refine lv_aload_n hx hb dX7_digit_15 rfl (lv_at hl 0 rfl) ?_
    refine gX7_199 X hJ (w := r) rfl dX7_digit_16 ?_
    refine cvt (y := nI (nn (r 2))) (hpt.1.2.eq) ?_
    refine ld_text X hJ (w := r) rfl (j := nn (r 2)) (rfl) (by omega) dX7_digit_19 ?_
    refine lv_bipush (v := 48) hx hb dX7_digit_20 (by decide) ?_
    refine lv_isub hx hb dX7_digit_22 ?_
    refine lv_goto (tgt := 28) hx hb dX7_digit_23 (by decide) ?_
    refine lv_istore_n (lv' := [(1, .int ((r (100 + (nn (r 2)))) - 48)), (0, .ref (B + 459))]) hx hb dX7_digit_28 rfl hl (by decide) rfl (fun ls hl => ?_)
    refine lv_aload_n hx hb dX7_digit_29 rfl (lv_at hl 1 rfl) ?_
    refine lv_dup hx hb dX7_digit_30 rfl ?_
    refine gX7_199 X hJ (w := r) rfl dX7_digit_31 ?_
    refine lv_iload_n hx hb dX7_digit_34 rfl (lv_at hl 0 rfl) ?_
    refine lv_bipush (v := (-6)) hx hb dX7_digit_35 (by decide) ?_
    refine lv_icmp_ne (tgt := 44) hx hb dX7_digit_37 (by decide) (fun c_37 => ?_) (fun c_37 => ?_)
    · skip
      refine lv_iconst (v := 1) hx hb dX7_digit_44 (by decide) ?_
      refine lv_iadd hx hb dX7_digit_45 ?_
      refine pX7_199 X hJ  dX7_digit_46 (fun H locs hJ => ?_)
      refine lv_iload_n hx hb dX7_digit_49 rfl (lv_at hl 0 rfl) ?_
      have hs : sX7_digit r = ((r (100 + (nn (r 2)))) - 48, upd r (2) ((r 2) + 1)) := by unfold sX7_digit; rw [if_neg c_8, if_neg c_37]
      exact fin (by rw [hs]; dsimp only; exact hJ) (by rw [hs]) dX7_digit_50
    · skip
      refine lv_iconst (v := 0) hx hb dX7_digit_40 (by decide) ?_
      refine lv_goto (tgt := 45) hx hb dX7_digit_41 (by decide) ?_
      refine lv_iadd hx hb dX7_digit_45 ?_
      refine pX7_199 X hJ  dX7_digit_46 (fun H locs hJ => ?_)
      refine lv_iload_n hx hb dX7_digit_49 rfl (lv_at hl 0 rfl) ?_
      have hs : sX7_digit r = ((r (100 + (nn (r 2)))) - 48, upd r (2) ((r 2) + 0)) := by unfold sX7_digit; rw [if_neg c_8, if_pos c_37]
      exact fin (by rw [hs]; dsimp only; exact hJ) (by rw [hs]) dX7_digit_50

theorem Pq_digit {s : Nat} {r : Row} (h : Pq s r) : Pq s (sX7_digit r).2 := by
  unfold sX7_digit
  refine Pq_j2 (fun _ => Pq_sp0 h) (fun c => ?_)
  exact Pq_j2 (fun _ => Pq_sp0 h) (fun _ => Pq_w (Nat.le_succ s) (Pq_spi h (here_lt c (Pq_w (Nat.zero_le s) h)).2))
def bX7_number_5  : Nat → Row → Int32 → Int32 × Row
  | 0, u5, _ => (0, u5)
  | n + 1, u5, v => if sX7_in v.toInt64 1 999 = 0 then ((v, u5)) else (if sX7_isHere u5 48 57 = 0 then ((v, u5)) else (bX7_number_5  n (upd u5 (2) ((u5 2) + 1)) (((10 * v) + (u5 (100 + (nn (u5 2))))) - 48)))
def sX7_number (r : Row) : Int32 × Row := bX7_number_5  81 ((sX7_digit r).2) ((sX7_digit r).1)
set_option maxHeartbeats 4000000 in
set_option maxRecDepth 100000 in
theorem mX7_number (l : Launch) (E : EE) (B : Nat) (g : GS)  (r : Row)  (hpt : Pq 0 r) : CG l yX7_number cX7_number 2 (some .int) 3 68 E B [.ref (B + 459)] (upR g r) (some (.int (sX7_number r).1)) (upR g ((sX7_number r).2)) := by
  refine mkI (own := RX7) (ty := .int) rfl (by decide) rfl (rfl) (Nat.le_of_ble_eq_true rfl) (fun P_ e_ s_ m_ a_ below meth cd Q X fin ls hl hJ => ?_)
  have hx := X.1
  have hb := X.2.1
  have hl : lv_has ls 2 [(0, .ref (B + 459))] := hl
  have bk_5 : ∀ (n : Nat) (u5 : Row)  (v : Int32), 80 - nn (u5 2) < n → (Pq 0 u5) → ∀ (H : Heap) (locs : List Loc) (ls : Array Slot), JG E B s_ (upR g u5) H locs → lv_has ls 2 [(0, .ref (B + 459)), (1, .int v)] → sX7_number r = bX7_number_5  n u5 v → W P_ l e_ (rmm 3 68 0 0) s_ m_ a_ below meth cd H locs 0 0 Q (F0 m_ 5 ls []) := by
    intro n
    induction n with
    | zero => intro u5 v hm; exact absurd hm (Nat.not_lt_zero _)
    | succ n ih =>
      intro u5 v hm hpt H locs ls hJ hl hs
      refine lv_iload_n hx hb dX7_number_5 rfl (lv_at hl 1 rfl) ?_
      refine lv_i2l hx hb dX7_number_6 rfl ?_
      refine lv_lconst (v := 1) hx hb dX7_number_7 (by decide) ?_
      refine lv_ldc2 (own := RX7) hx hb X.2.2.2.1 (X.2.2.2.2.1 (.constantLong RX7 208 999) (tw (i := 1073) (by decide +kernel) (by decide))) dX7_number_8 ?_
      refine kX7_81 X hJ (mX7_in l E B _ v.toInt64 1 999) rfl hl.1 ⟨Nat.le_of_ble_eq_true rfl, Nat.le_of_ble_eq_true rfl⟩ ⟨Nat.le_refl _, Nat.le_refl _⟩ (rest := []) rfl (Nat.le_of_ble_eq_true rfl) dX7_number_11 (fun H locs hJ => ?_)
      refine lv_if_eq (tgt := 59) hx hb dX7_number_14 (by decide) (fun c_14 => ?_) (fun c_14 => ?_)
      · skip
        refine lv_iload_n hx hb dX7_number_59 rfl (lv_at hl 1 rfl) ?_
        have hs : sX7_number r = (v, u5) := hs.trans (by rw [bX7_number_5, if_pos c_14])
        exact fin (by rw [hs]; dsimp only; exact hJ) (by rw [hs]) dX7_number_60
      · skip
        refine lv_aload_n hx hb dX7_number_17 rfl (lv_at hl 0 rfl) ?_
        refine lv_bipush (v := 48) hx hb dX7_number_18 (by decide) ?_
        refine lv_bipush (v := 57) hx hb dX7_number_20 (by decide) ?_
        refine kX7_202 X hJ (mX7_isHere l E B _ 48 57 u5 rfl (hpt)) rfl (by omega) (at_M rfl) hl.1 ⟨Nat.le_of_ble_eq_true rfl, Nat.le_of_ble_eq_true rfl⟩ ⟨Nat.le_refl _, Nat.le_refl _⟩ (rest := []) rfl (Nat.le_of_ble_eq_true rfl) dX7_number_22 (fun H locs hJ => ?_)
        refine lv_if_eq (tgt := 59) hx hb dX7_number_25 (by decide) (fun c_25 => ?_) (fun c_25 => ?_)
        · skip
          refine lv_iload_n hx hb dX7_number_59 rfl (lv_at hl 1 rfl) ?_
          have hs : sX7_number r = (v, u5) := hs.trans (by rw [bX7_number_5, if_neg c_14, if_pos c_25])
          exact fin (by rw [hs]; dsimp only; exact hJ) (by rw [hs]) dX7_number_60
        · skip
          have hsp := here_lt c_25 hpt
          refine lv_bipush (v := 10) hx hb dX7_number_28 (by decide) ?_
          refine lv_iload_n hx hb dX7_number_30 rfl (lv_at hl 1 rfl) ?_
          refine lv_imul hx hb dX7_number_31 ?_
          refine lv_aload_n hx hb dX7_number_32 rfl (lv_at hl 0 rfl) ?_
          refine gX7_17 X hJ (w := u5) rfl dX7_number_33 ?_
          refine lv_aload_n hx hb dX7_number_36 rfl (lv_at hl 0 rfl) ?_
          refine gX7_199 X hJ (w := u5) rfl dX7_number_37 ?_
          refine cvt (y := nI (nn (u5 2))) (hpt.1.2.eq) ?_
          refine ld_text X hJ (w := u5) rfl (j := nn (u5 2)) (rfl) (by omega) dX7_number_40 ?_
          refine lv_iadd hx hb dX7_number_41 ?_
          refine lv_bipush (v := 48) hx hb dX7_number_42 (by decide) ?_
          refine lv_isub hx hb dX7_number_44 ?_
          refine lv_istore_n (lv' := [(1, .int (((10 * v) + (u5 (100 + (nn (u5 2))))) - 48)), (0, .ref (B + 459))]) hx hb dX7_number_45 rfl hl (by decide) rfl (fun ls hl => ?_)
          refine lv_aload_n hx hb dX7_number_46 rfl (lv_at hl 1 rfl) ?_
          refine lv_dup hx hb dX7_number_47 rfl ?_
          refine gX7_199 X hJ (w := u5) rfl dX7_number_48 ?_
          refine lv_iconst (v := 1) hx hb dX7_number_51 (by decide) ?_
          refine lv_iadd hx hb dX7_number_52 ?_
          refine pX7_199 X hJ  dX7_number_53 (fun H locs hJ => ?_)
          refine lv_goto (tgt := 5) hx hb dX7_number_56 (by decide) ?_
          have hs : sX7_number r = bX7_number_5  n (upd u5 (2) ((u5 2) + 1)) (((10 * v) + (u5 (100 + (nn (u5 2))))) - 48) := hs.trans (by rw [bX7_number_5, if_neg c_14, if_neg c_25])
          exact ih (upd u5 (2) ((u5 2) + 1)) (((10 * v) + (u5 (100 + (nn (u5 2))))) - 48) (by have e := smi hpt.1.2 hsp.2 (by omega); have e2 := e.2; show 80 - nn (u5 2 + 1) < n; omega) (Pq_w (Nat.zero_le 1) (Pq_spi hpt hsp.2)) _ _ _ hJ (lv_sub hl [1, 0] rfl) hs
  refine lv_aload_n hx hb dX7_number_0 rfl (lv_at hl 0 rfl) ?_
  refine kX7_205 X hJ (mX7_digit l E B _ r (hpt)) rfl (by omega) (at_M rfl) hl.1 ⟨Nat.le_of_ble_eq_true rfl, Nat.le_of_ble_eq_true rfl⟩ ⟨Nat.le_refl _, Nat.le_refl _⟩ (rest := []) rfl (Nat.le_of_ble_eq_true rfl) dX7_number_1 (fun H locs hJ => ?_)
  refine lv_istore_n (lv' := [(1, .int ((sX7_digit r).1)), (0, .ref (B + 459))]) hx hb dX7_number_4 rfl hl (by decide) rfl (fun ls hl => ?_)
  have hs : sX7_number r = bX7_number_5  81 ((sX7_digit r).2) ((sX7_digit r).1) := by unfold sX7_number; rfl
  exact bk_5 81 ((sX7_digit r).2) ((sX7_digit r).1) (by omega) (Pq_digit (hpt)) _ _ _ hJ (lv_sub hl [1, 0] rfl) hs

theorem Pq_number {s : Nat} {r : Row} (h : Pq s r) : Pq s (sX7_number r).2 := by
  have key : ∀ (n : Nat) (r : Row) (v : Int32), Pq s r → Pq s (bX7_number_5 n r v).2 := by
    intro n
    induction n with
    | zero => intro r v h; exact h
    | succ n ih =>
      intro r v h
      rw [bX7_number_5]
      refine Pq_i2 h (Pq_j2 (fun _ => h) (fun c => ?_))
      exact ih _ _ (Pq_w (Nat.le_succ s) (Pq_spi h (here_lt c (Pq_w (Nat.zero_le s) h)).2))
  unfold sX7_number
  exact key _ _ _ (Pq_digit h)
def sX7_readsOne (r : Row) : Int32 × Row := if (upd ((sX7_digit r).2) (4) ((sX7_digit r).1)) 4 = (-6) then ((0, upd ((sX7_digit r).2) (4) ((sX7_digit r).1))) else ((1, upd ((sX7_digit r).2) (4) ((sX7_digit r).1)))
theorem b01_X7_readsOne {r : Row} : b01 (sX7_readsOne r).1 := b01_i2 (Or.inl rfl) (Or.inr rfl)
set_option maxHeartbeats 4000000 in
set_option maxRecDepth 100000 in
theorem mX7_readsOne (l : Launch) (E : EE) (B : Nat) (g : GS)  (r : Row)  (hpt : Pq 0 r) : CG l yX7_readsOne cX7_readsOne 1 (some .boolean) 3 68 E B [.ref (B + 459)] (upR g r) (some (.int (sX7_readsOne r).1)) (upR g ((sX7_readsOne r).2)) := by
  refine mkI (own := RX7) (ty := .boolean) rfl (by decide) rfl (b01_X7_readsOne.nar) (Nat.le_of_ble_eq_true rfl) (fun P_ e_ s_ m_ a_ below meth cd Q X fin ls hl hJ => ?_)
  have hx := X.1
  have hb := X.2.1
  have hl : lv_has ls 1 [(0, .ref (B + 459))] := hl
  refine lv_aload_n hx hb dX7_readsOne_0 rfl (lv_at hl 0 rfl) ?_
  refine lv_aload_n hx hb dX7_readsOne_1 rfl (lv_at hl 0 rfl) ?_
  refine kX7_205 X hJ (mX7_digit l E B _ r (hpt)) rfl (by omega) (at_M rfl) hl.1 ⟨Nat.le_of_ble_eq_true rfl, Nat.le_of_ble_eq_true rfl⟩ ⟨Nat.le_refl _, Nat.le_refl _⟩ (rest := [.ref (B + 459)]) rfl (Nat.le_of_ble_eq_true rfl) dX7_readsOne_2 (fun H locs hJ => ?_)
  refine pX7_210 X hJ  dX7_readsOne_5 (fun H locs hJ => ?_)
  refine lv_aload_n hx hb dX7_readsOne_8 rfl (lv_at hl 0 rfl) ?_
  refine gX7_210 X hJ (w := upd ((sX7_digit r).2) (4) ((sX7_digit r).1)) rfl dX7_readsOne_9 ?_
  refine lv_bipush (v := (-6)) hx hb dX7_readsOne_12 (by decide) ?_
  refine lv_icmp_eq (tgt := 21) hx hb dX7_readsOne_14 (by decide) (fun c_14 => ?_) (fun c_14 => ?_)
  · skip
    refine lv_iconst (v := 0) hx hb dX7_readsOne_21 (by decide) ?_
    have hs : sX7_readsOne r = (0, upd ((sX7_digit r).2) (4) ((sX7_digit r).1)) := by unfold sX7_readsOne; rw [if_pos c_14]
    exact fin (by rw [hs]; dsimp only; exact hJ) (by rw [hs]) dX7_readsOne_22
  · skip
    refine lv_iconst (v := 1) hx hb dX7_readsOne_17 (by decide) ?_
    refine lv_goto (tgt := 22) hx hb dX7_readsOne_18 (by decide) ?_
    have hs : sX7_readsOne r = (1, upd ((sX7_digit r).2) (4) ((sX7_digit r).1)) := by unfold sX7_readsOne; rw [if_neg c_14]
    exact fin (by rw [hs]; dsimp only; exact hJ) (by rw [hs]) dX7_readsOne_22

theorem Pq_X7_readsOne {s : Nat} {r : Row} (h : Pq s r) : Pq s (sX7_readsOne r).2 := Pq_i2 (Pq_upd (by omega) (by omega) (Pq_digit h)) (Pq_upd (by omega) (by omega) (Pq_digit h))
def sX7_readsTwo (r : Row) (x : Int32) : Int32 × Row := if x = 0 then (if (upd ((sX7_number r).2) (5) ((sX7_number r).1)) 5 = (-6) then ((0, upd ((sX7_number r).2) (5) ((sX7_number r).1))) else ((1, upd ((sX7_number r).2) (5) ((sX7_number r).1)))) else (if (upd ((sX7_digit r).2) (5) ((sX7_digit r).1)) 5 = (-6) then ((0, upd ((sX7_digit r).2) (5) ((sX7_digit r).1))) else ((1, upd ((sX7_digit r).2) (5) ((sX7_digit r).1))))
theorem b01_X7_readsTwo {r : Row} {x : Int32} : b01 (sX7_readsTwo r x).1 := b01_i2 (b01_i2 (Or.inl rfl) (Or.inr rfl)) (b01_i2 (Or.inl rfl) (Or.inr rfl))
set_option maxHeartbeats 4000000 in
set_option maxRecDepth 100000 in
theorem mX7_readsTwo (l : Launch) (E : EE) (B : Nat) (g : GS) (x : Int32) (r : Row)  (hpt : Pq 0 r) : CG l yX7_readsTwo cX7_readsTwo 2 (some .boolean) 4 89 E B [.ref (B + 459), .int x] (upR g r) (some (.int (sX7_readsTwo r x).1)) (upR g ((sX7_readsTwo r x).2)) := by
  refine mkI (own := RX7) (ty := .boolean) rfl (by decide) rfl (b01_X7_readsTwo.nar) (Nat.le_of_ble_eq_true rfl) (fun P_ e_ s_ m_ a_ below meth cd Q X fin ls hl hJ => ?_)
  have hx := X.1
  have hb := X.2.1
  have hl : lv_has ls 2 [(0, .ref (B + 459)), (1, .int x)] := hl
  refine lv_aload_n hx hb dX7_readsTwo_0 rfl (lv_at hl 0 rfl) ?_
  refine lv_iload_n hx hb dX7_readsTwo_1 rfl (lv_at hl 1 rfl) ?_
  refine lv_if_eq (tgt := 12) hx hb dX7_readsTwo_2 (by decide) (fun c_2 => ?_) (fun c_2 => ?_)
  · skip
    refine lv_aload_n hx hb dX7_readsTwo_12 rfl (lv_at hl 0 rfl) ?_
    refine kX7_213 X hJ (mX7_number l E B _ r (hpt)) rfl (by omega) (at_M rfl) hl.1 ⟨Nat.le_of_ble_eq_true rfl, Nat.le_of_ble_eq_true rfl⟩ ⟨Nat.le_refl _, Nat.le_refl _⟩ (rest := [.ref (B + 459)]) rfl (Nat.le_of_ble_eq_true rfl) dX7_readsTwo_13 (fun H locs hJ => ?_)
    refine pX7_216 X hJ  dX7_readsTwo_16 (fun H locs hJ => ?_)
    refine lv_aload_n hx hb dX7_readsTwo_19 rfl (lv_at hl 0 rfl) ?_
    refine gX7_216 X hJ (w := upd ((sX7_number r).2) (5) ((sX7_number r).1)) rfl dX7_readsTwo_20 ?_
    refine lv_bipush (v := (-6)) hx hb dX7_readsTwo_23 (by decide) ?_
    refine lv_icmp_eq (tgt := 32) hx hb dX7_readsTwo_25 (by decide) (fun c_25 => ?_) (fun c_25 => ?_)
    · skip
      refine lv_iconst (v := 0) hx hb dX7_readsTwo_32 (by decide) ?_
      have hs : sX7_readsTwo r x = (0, upd ((sX7_number r).2) (5) ((sX7_number r).1)) := by unfold sX7_readsTwo; rw [if_pos c_2, if_pos c_25]
      exact fin (by rw [hs]; dsimp only; exact hJ) (by rw [hs]) dX7_readsTwo_33
    · skip
      refine lv_iconst (v := 1) hx hb dX7_readsTwo_28 (by decide) ?_
      refine lv_goto (tgt := 33) hx hb dX7_readsTwo_29 (by decide) ?_
      have hs : sX7_readsTwo r x = (1, upd ((sX7_number r).2) (5) ((sX7_number r).1)) := by unfold sX7_readsTwo; rw [if_pos c_2, if_neg c_25]
      exact fin (by rw [hs]; dsimp only; exact hJ) (by rw [hs]) dX7_readsTwo_33
  · skip
    refine lv_aload_n hx hb dX7_readsTwo_5 rfl (lv_at hl 0 rfl) ?_
    refine kX7_205 X hJ (mX7_digit l E B _ r (hpt)) rfl (by omega) (at_M rfl) hl.1 ⟨Nat.le_of_ble_eq_true rfl, Nat.le_of_ble_eq_true rfl⟩ ⟨Nat.le_refl _, Nat.le_refl _⟩ (rest := [.ref (B + 459)]) rfl (Nat.le_of_ble_eq_true rfl) dX7_readsTwo_6 (fun H locs hJ => ?_)
    refine lv_goto (tgt := 16) hx hb dX7_readsTwo_9 (by decide) ?_
    refine pX7_216 X hJ  dX7_readsTwo_16 (fun H locs hJ => ?_)
    refine lv_aload_n hx hb dX7_readsTwo_19 rfl (lv_at hl 0 rfl) ?_
    refine gX7_216 X hJ (w := upd ((sX7_digit r).2) (5) ((sX7_digit r).1)) rfl dX7_readsTwo_20 ?_
    refine lv_bipush (v := (-6)) hx hb dX7_readsTwo_23 (by decide) ?_
    refine lv_icmp_eq (tgt := 32) hx hb dX7_readsTwo_25 (by decide) (fun c_25 => ?_) (fun c_25 => ?_)
    · skip
      refine lv_iconst (v := 0) hx hb dX7_readsTwo_32 (by decide) ?_
      have hs : sX7_readsTwo r x = (0, upd ((sX7_digit r).2) (5) ((sX7_digit r).1)) := by unfold sX7_readsTwo; rw [if_neg c_2, if_pos c_25]
      exact fin (by rw [hs]; dsimp only; exact hJ) (by rw [hs]) dX7_readsTwo_33
    · skip
      refine lv_iconst (v := 1) hx hb dX7_readsTwo_28 (by decide) ?_
      refine lv_goto (tgt := 33) hx hb dX7_readsTwo_29 (by decide) ?_
      have hs : sX7_readsTwo r x = (1, upd ((sX7_digit r).2) (5) ((sX7_digit r).1)) := by unfold sX7_readsTwo; rw [if_neg c_2, if_neg c_25]
      exact fin (by rw [hs]; dsimp only; exact hJ) (by rw [hs]) dX7_readsTwo_33

theorem Pq_X7_readsTwo {s : Nat} {r : Row} {x : Int32} (h : Pq s r) : Pq s (sX7_readsTwo r x).2 := Pq_i2 (Pq_i2 (Pq_upd (by omega) (by omega) (Pq_number h)) (Pq_upd (by omega) (by omega) (Pq_number h))) (Pq_i2 (Pq_upd (by omega) (by omega) (Pq_digit h)) (Pq_upd (by omega) (by omega) (Pq_digit h)))
def sX7_readsThree (r : Row) : Int32 × Row := if (upd ((sX7_number r).2) (6) ((sX7_number r).1)) 6 = (-6) then ((0, upd ((sX7_number r).2) (6) ((sX7_number r).1))) else ((1, upd ((sX7_number r).2) (6) ((sX7_number r).1)))
theorem b01_X7_readsThree {r : Row} : b01 (sX7_readsThree r).1 := b01_i2 (Or.inl rfl) (Or.inr rfl)
set_option maxHeartbeats 4000000 in
set_option maxRecDepth 100000 in
theorem mX7_readsThree (l : Launch) (E : EE) (B : Nat) (g : GS)  (r : Row)  (hpt : Pq 0 r) : CG l yX7_readsThree cX7_readsThree 1 (some .boolean) 4 89 E B [.ref (B + 459)] (upR g r) (some (.int (sX7_readsThree r).1)) (upR g ((sX7_readsThree r).2)) := by
  refine mkI (own := RX7) (ty := .boolean) rfl (by decide) rfl (b01_X7_readsThree.nar) (Nat.le_of_ble_eq_true rfl) (fun P_ e_ s_ m_ a_ below meth cd Q X fin ls hl hJ => ?_)
  have hx := X.1
  have hb := X.2.1
  have hl : lv_has ls 1 [(0, .ref (B + 459))] := hl
  refine lv_aload_n hx hb dX7_readsThree_0 rfl (lv_at hl 0 rfl) ?_
  refine lv_aload_n hx hb dX7_readsThree_1 rfl (lv_at hl 0 rfl) ?_
  refine kX7_213 X hJ (mX7_number l E B _ r (hpt)) rfl (by omega) (at_M rfl) hl.1 ⟨Nat.le_of_ble_eq_true rfl, Nat.le_of_ble_eq_true rfl⟩ ⟨Nat.le_refl _, Nat.le_refl _⟩ (rest := [.ref (B + 459)]) rfl (Nat.le_of_ble_eq_true rfl) dX7_readsThree_2 (fun H locs hJ => ?_)
  refine pX7_219 X hJ  dX7_readsThree_5 (fun H locs hJ => ?_)
  refine lv_aload_n hx hb dX7_readsThree_8 rfl (lv_at hl 0 rfl) ?_
  refine gX7_219 X hJ (w := upd ((sX7_number r).2) (6) ((sX7_number r).1)) rfl dX7_readsThree_9 ?_
  refine lv_bipush (v := (-6)) hx hb dX7_readsThree_12 (by decide) ?_
  refine lv_icmp_eq (tgt := 21) hx hb dX7_readsThree_14 (by decide) (fun c_14 => ?_) (fun c_14 => ?_)
  · skip
    refine lv_iconst (v := 0) hx hb dX7_readsThree_21 (by decide) ?_
    have hs : sX7_readsThree r = (0, upd ((sX7_number r).2) (6) ((sX7_number r).1)) := by unfold sX7_readsThree; rw [if_pos c_14]
    exact fin (by rw [hs]; dsimp only; exact hJ) (by rw [hs]) dX7_readsThree_22
  · skip
    refine lv_iconst (v := 1) hx hb dX7_readsThree_17 (by decide) ?_
    refine lv_goto (tgt := 22) hx hb dX7_readsThree_18 (by decide) ?_
    have hs : sX7_readsThree r = (1, upd ((sX7_number r).2) (6) ((sX7_number r).1)) := by unfold sX7_readsThree; rw [if_neg c_14]
    exact fin (by rw [hs]; dsimp only; exact hJ) (by rw [hs]) dX7_readsThree_22

theorem Pq_X7_readsThree {s : Nat} {r : Row} (h : Pq s r) : Pq s (sX7_readsThree r).2 := Pq_i2 (Pq_upd (by omega) (by omega) (Pq_number h)) (Pq_upd (by omega) (by omega) (Pq_number h))
