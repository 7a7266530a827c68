def b01 (v : Int32) : Prop := v = 0 ∨ v = 1
theorem Pd_i2 {β : Type} {c : Prop} {i : Decidable c} {a b : β × Row} (h1 : Pd a.2) (h2 : Pd b.2) : Pd (@ite _ c i a b).2 := by cases i <;> assumption
theorem Pd_iv {c : Prop} {i : Decidable c} {a b : Row} (h1 : Pd a) (h2 : Pd b) : Pd (@ite _ c i a b) := by cases i <;> assumption
theorem Pd_p2 {β : Type} {v : β} {w : Row} (h : Pd w) : Pd (v, w).2 := h
theorem b01_i2 {β : Type} {c : Prop} {i : Decidable c} {a b : Int32 × β} (h1 : b01 a.1) (h2 : b01 b.1) : b01 (@ite _ c i a b).1 := by cases i <;> assumption
theorem b01.nar {v : Int32} (h : b01 v) : narrow .boolean (.int v) = .int v := by rcases h with h | h <;> (rw [h]; rfl)
def sX3_goToStart (u : Row) : Row := upd u (4) 0
set_option maxHeartbeats 4000000 in
set_option maxRecDepth 100000 in
theorem mX3_goToStart (l : Launch) (E : EE) (B : Nat) (g : GS)  (u : Row) : CG l yX3_goToStart cX3_goToStart 1 none 0 0 E B [.ref (B + 458)] (upC g u) none (upC g (sX3_goToStart u)) := by
  refine mkV (own := RX3) rfl (by decide) rfl (Nat.le_of_ble_eq_true rfl) (fun P_ e_ s_ m_ a_ below meth cd Q X _ fin ls hl hJ => ?_)
  have hx := X.1
  have hb := X.2.1
  have hl : lv_has ls 1 [(0, .ref (B + 458))] := hl
  refine lv_aload_n hx hb dX3_goToStart_0 rfl (lv_at hl 0 rfl) ?_
  refine lv_iconst (v := 0) hx hb dX3_goToStart_1 (by decide) ?_
  refine pX3_15 X hJ  dX3_goToStart_2 (fun H locs hJ => ?_)
  have hs : sX3_goToStart u = upd u (4) 0 := by unfold sX3_goToStart; rfl
  exact fin (by rw [hs]; exact hJ) dX3_goToStart_5

def sX3_isKind (x : Int32) : Int32 := if x = 98 then (1) else (if x = 99 then (1) else (if x = 103 then (1) else (if x = 104 then (1) else (if x = 108 then (1) else (if x = 112 then (1) else (0))))))
set_option maxHeartbeats 4000000 in
set_option maxRecDepth 100000 in
theorem mX3_isKind (l : Launch) (E : EE) (B : Nat) (g : GS) (x : Int32) : CG l yX3_isKind cX3_isKind 1 (some .boolean) 0 0 E B [.int x] g (some (.int (sX3_isKind x))) g := by
  refine mkI (own := RX3) (ty := .boolean) rfl (by decide) rfl (by unfold sX3_isKind; (repeat' split) <;> rfl) (Nat.le_of_ble_eq_true rfl) (fun P_ e_ s_ m_ a_ below meth cd Q X fin ls hl hJ => ?_)
  have hx := X.1
  have hb := X.2.1
  have hl : lv_has ls 1 [(0, .int x)] := hl
  refine lv_iload_n hx hb dX3_isKind_0 rfl (lv_at hl 0 rfl) ?_
  refine lv_bipush (v := 98) hx hb dX3_isKind_1 (by decide) ?_
  refine lv_icmp_eq (tgt := 36) hx hb dX3_isKind_3 (by decide) (fun c_3 => ?_) (fun c_3 => ?_)
  · skip
    refine lv_iconst (v := 1) hx hb dX3_isKind_36 (by decide) ?_
    refine lv_goto (tgt := 41) hx hb dX3_isKind_37 (by decide) ?_
    have hs : sX3_isKind x = 1 := by unfold sX3_isKind; rw [if_pos c_3]
    exact fin hJ (by rw [hs]) dX3_isKind_41
  · skip
    refine lv_iload_n hx hb dX3_isKind_6 rfl (lv_at hl 0 rfl) ?_
    refine lv_bipush (v := 99) hx hb dX3_isKind_7 (by decide) ?_
    refine lv_icmp_eq (tgt := 36) hx hb dX3_isKind_9 (by decide) (fun c_9 => ?_) (fun c_9 => ?_)
    · skip
      refine lv_iconst (v := 1) hx hb dX3_isKind_36 (by decide) ?_
      refine lv_goto (tgt := 41) hx hb dX3_isKind_37 (by decide) ?_
      have hs : sX3_isKind x = 1 := by unfold sX3_isKind; rw [if_neg c_3, if_pos c_9]
      exact fin hJ (by rw [hs]) dX3_isKind_41
    · skip
      refine lv_iload_n hx hb dX3_isKind_12 rfl (lv_at hl 0 rfl) ?_
      refine lv_bipush (v := 103) hx hb dX3_isKind_13 (by decide) ?_
      refine lv_icmp_eq (tgt := 36) hx hb dX3_isKind_15 (by decide) (fun c_15 => ?_) (fun c_15 => ?_)
      · skip
        refine lv_iconst (v := 1) hx hb dX3_isKind_36 (by decide) ?_
        refine lv_goto (tgt := 41) hx hb dX3_isKind_37 (by decide) ?_
        have hs : sX3_isKind x = 1 := by unfold sX3_isKind; rw [if_neg c_3, if_neg c_9, if_pos c_15]
        exact fin hJ (by rw [hs]) dX3_isKind_41
      · skip
        refine lv_iload_n hx hb dX3_isKind_18 rfl (lv_at hl 0 rfl) ?_
        refine lv_bipush (v := 104) hx hb dX3_isKind_19 (by decide) ?_
        refine lv_icmp_eq (tgt := 36) hx hb dX3_isKind_21 (by decide) (fun c_21 => ?_) (fun c_21 => ?_)
        · skip
          refine lv_iconst (v := 1) hx hb dX3_isKind_36 (by decide) ?_
          refine lv_goto (tgt := 41) hx hb dX3_isKind_37 (by decide) ?_
          have hs : sX3_isKind x = 1 := by unfold sX3_isKind; rw [if_neg c_3, if_neg c_9, if_neg c_15, if_pos c_21]
          exact fin hJ (by rw [hs]) dX3_isKind_41
        · skip
          refine lv_iload_n hx hb dX3_isKind_24 rfl (lv_at hl 0 rfl) ?_
          refine lv_bipush (v := 108) hx hb dX3_isKind_25 (by decide) ?_
          refine lv_icmp_eq (tgt := 36) hx hb dX3_isKind_27 (by decide) (fun c_27 => ?_) (fun c_27 => ?_)
          · skip
            refine lv_iconst (v := 1) hx hb dX3_isKind_36 (by decide) ?_
            refine lv_goto (tgt := 41) hx hb dX3_isKind_37 (by decide) ?_
            have hs : sX3_isKind x = 1 := by unfold sX3_isKind; rw [if_neg c_3, if_neg c_9, if_neg c_15, if_neg c_21, if_pos c_27]
            exact fin hJ (by rw [hs]) dX3_isKind_41
          · skip
            refine lv_iload_n hx hb dX3_isKind_30 rfl (lv_at hl 0 rfl) ?_
            refine lv_bipush (v := 112) hx hb dX3_isKind_31 (by decide) ?_
            refine lv_icmp_ne (tgt := 40) hx hb dX3_isKind_33 (by decide) (fun c_33 => ?_) (fun c_33 => ?_)
            · skip
              refine lv_iconst (v := 0) hx hb dX3_isKind_40 (by decide) ?_
              have hs : sX3_isKind x = 0 := by unfold sX3_isKind; rw [if_neg c_3, if_neg c_9, if_neg c_15, if_neg c_21, if_neg c_27, if_neg c_33]
              exact fin hJ (by rw [hs]) dX3_isKind_41
            · skip
              refine lv_iconst (v := 1) hx hb dX3_isKind_36 (by decide) ?_
              refine lv_goto (tgt := 41) hx hb dX3_isKind_37 (by decide) ?_
              have hs : sX3_isKind x = 1 := by unfold sX3_isKind; rw [if_neg c_3, if_neg c_9, if_neg c_15, if_neg c_21, if_neg c_27, if_pos c_33]
              exact fin hJ (by rw [hs]) dX3_isKind_41

def sX3_nextDigit (u : Row) : Int32 × Row := if sX4_codeAt u (u 4) < 48 then (((-6), u)) else (if sX4_codeAt u (u 4) ≤ 57 then (((sX4_codeAt u (u 4)) - 48, upd u (4) ((u 4) + 1))) else (((-6), u)))
set_option maxHeartbeats 4000000 in
set_option maxRecDepth 100000 in
theorem mX3_nextDigit (l : Launch) (E : EE) (B : Nat) (g : GS)  (u : Row) (hpd : Pd u) : CG l yX3_nextDigit cX3_nextDigit 2 (some .int) 1 21 E B [.ref (B + 458)] (upC g u) (some (.int (sX3_nextDigit u).1)) (upC g ((sX3_nextDigit u).2)) := by
  refine mkI (own := RX3) (ty := .int) rfl (by decide) rfl (rfl) (Nat.le_of_ble_eq_true rfl) (fun P_ e_ s_ m_ a_ below meth cd Q X fin ls hl hJ => ?_)
  have hx := X.1
  have hb := X.2.1
  have hl : lv_has ls 2 [(0, .ref (B + 458))] := hl
  refine lv_aload_n hx hb dX3_nextDigit_0 rfl (lv_at hl 0 rfl) ?_
  refine gX3_9 X hJ (w := u) rfl dX3_nextDigit_1 ?_
  refine lv_aload_n hx hb dX3_nextDigit_4 rfl (lv_at hl 0 rfl) ?_
  refine gX3_15 X hJ (w := u) rfl dX3_nextDigit_5 ?_
  refine kX3_35 X hJ (mX4_codeAt l E B _ (u 4) u rfl (hpd)) rfl (by omega) (at_P rfl) hl.1 ⟨Nat.le_of_ble_eq_true rfl, Nat.le_of_ble_eq_true rfl⟩ ⟨Nat.le_refl _, Nat.le_refl _⟩ (rest := []) rfl (Nat.le_of_ble_eq_true rfl) dX3_nextDigit_8 (fun H locs hJ => ?_)
  refine lv_istore_n (lv' := [(1, .int (sX4_codeAt u (u 4))), (0, .ref (B + 458))]) hx hb dX3_nextDigit_11 rfl hl (by decide) rfl (fun ls hl => ?_)
  refine lv_iload_n hx hb dX3_nextDigit_12 rfl (lv_at hl 0 rfl) ?_
  refine lv_bipush (v := 48) hx hb dX3_nextDigit_13 (by decide) ?_
  refine lv_icmp_lt (tgt := 24) hx hb dX3_nextDigit_15 (by decide) (fun c_15 => ?_) (fun c_15 => ?_)
  · skip
    refine lv_bipush (v := (-6)) hx hb dX3_nextDigit_24 (by decide) ?_
    have hs : sX3_nextDigit u = ((-6), u) := by unfold sX3_nextDigit; rw [if_pos c_15]
    exact fin (by rw [hs]; dsimp only; exact hJ) (by rw [hs]) dX3_nextDigit_26
  · skip
    refine lv_iload_n hx hb dX3_nextDigit_18 rfl (lv_at hl 0 rfl) ?_
    refine lv_bipush (v := 57) hx hb dX3_nextDigit_19 (by decide) ?_
    refine lv_icmp_le (tgt := 27) hx hb dX3_nextDigit_21 (by decide) (fun c_21 => ?_) (fun c_21 => ?_)
    · skip
      refine lv_aload_n hx hb dX3_nextDigit_27 rfl (lv_at hl 1 rfl) ?_
      refine lv_dup hx hb dX3_nextDigit_28 rfl ?_
      refine gX3_15 X hJ (w := u) rfl dX3_nextDigit_29 ?_
      refine lv_iconst (v := 1) hx hb dX3_nextDigit_32 (by decide) ?_
      refine lv_iadd hx hb dX3_nextDigit_33 ?_
      refine pX3_15 X hJ  dX3_nextDigit_34 (fun H locs hJ => ?_)
      refine lv_iload_n hx hb dX3_nextDigit_37 rfl (lv_at hl 0 rfl) ?_
      refine lv_bipush (v := 48) hx hb dX3_nextDigit_38 (by decide) ?_
      refine lv_isub hx hb dX3_nextDigit_40 ?_
      have hs : sX3_nextDigit u = ((sX4_codeAt u (u 4)) - 48, upd u (4) ((u 4) + 1)) := by unfold sX3_nextDigit; rw [if_neg c_15, if_pos c_21]
      exact fin (by rw [hs]; dsimp only; exact hJ) (by rw [hs]) dX3_nextDigit_41
    · skip
      refine lv_bipush (v := (-6)) hx hb dX3_nextDigit_24 (by decide) ?_
      have hs : sX3_nextDigit u = ((-6), u) := by unfold sX3_nextDigit; rw [if_neg c_15, if_neg c_21]
      exact fin (by rw [hs]; dsimp only; exact hJ) (by rw [hs]) dX3_nextDigit_26

theorem Pd_sX3_nextDigit {u : Row}  (h : Pd u) : Pd (sX3_nextDigit u).2 := by
  unfold sX3_nextDigit
  exact Pd_i2 (Pd_p2 (h)) (Pd_i2 (Pd_p2 (Pd_upd (by decide) (h))) (Pd_p2 (h)))
def sX3_readSign (u : Row) (x : Int32) : Int32 × Row := if sX4_codeAt u (u 4) = x then ((1, upd u (4) ((u 4) + 1))) else ((0, u))
set_option maxHeartbeats 4000000 in
set_option maxRecDepth 100000 in
theorem mX3_readSign (l : Launch) (E : EE) (B : Nat) (g : GS) (x : Int32) (u : Row) (hpd : Pd u) : CG l yX3_readSign cX3_readSign 3 (some .boolean) 1 21 E B [.ref (B + 458), .int x] (upC g u) (some (.int (sX3_readSign u x).1)) (upC g ((sX3_readSign u x).2)) := by
  refine mkI (own := RX3) (ty := .boolean) rfl (by decide) rfl (by unfold sX3_readSign; (repeat' split) <;> first | (show narrow .boolean (.int 0) = .int 0; rfl) | (show narrow .boolean (.int 1) = .int 1; rfl)) (Nat.le_of_ble_eq_true rfl) (fun P_ e_ s_ m_ a_ below meth cd Q X fin ls hl hJ => ?_)
  have hx := X.1
  have hb := X.2.1
  have hl : lv_has ls 3 [(0, .ref (B + 458)), (1, .int x)] := hl
  refine lv_aload_n hx hb dX3_readSign_0 rfl (lv_at hl 0 rfl) ?_
  refine gX3_9 X hJ (w := u) rfl dX3_readSign_1 ?_
  refine lv_aload_n hx hb dX3_readSign_4 rfl (lv_at hl 0 rfl) ?_
  refine gX3_15 X hJ (w := u) rfl dX3_readSign_5 ?_
  refine kX3_35 X hJ (mX4_codeAt l E B _ (u 4) u rfl (hpd)) rfl (by omega) (at_P rfl) hl.1 ⟨Nat.le_of_ble_eq_true rfl, Nat.le_of_ble_eq_true rfl⟩ ⟨Nat.le_refl _, Nat.le_refl _⟩ (rest := []) rfl (Nat.le_of_ble_eq_true rfl) dX3_readSign_8 (fun H locs hJ => ?_)
  refine lv_iload_n hx hb dX3_readSign_11 rfl (lv_at hl 1 rfl) ?_
  refine lv_icmp_ne (tgt := 19) hx hb dX3_readSign_12 (by decide) (fun c_12 => ?_) (fun c_12 => ?_)
  · skip
    refine lv_iconst (v := 0) hx hb dX3_readSign_19 (by decide) ?_
    refine lv_istore_n (lv' := [(2, .int 0), (0, .ref (B + 458)), (1, .int x)]) hx hb dX3_readSign_20 rfl hl (by decide) rfl (fun ls hl => ?_)
    refine lv_iload_n hx hb dX3_readSign_21 rfl (lv_at hl 0 rfl) ?_
    refine lv_if_eq (tgt := 35) hx hb dX3_readSign_22 (by decide) (fun c_22 => ?_) (fun c_22 => ?_)
    · skip
      refine lv_iload_n hx hb dX3_readSign_35 rfl (lv_at hl 0 rfl) ?_
      have hs : sX3_readSign u x = (0, u) := by unfold sX3_readSign; rw [if_neg c_12]
      exact fin (by rw [hs]; dsimp only; exact hJ) (by rw [hs]) dX3_readSign_36
    · exact absurd c_22 (by decide)
  · skip
    refine lv_iconst (v := 1) hx hb dX3_readSign_15 (by decide) ?_
    refine lv_goto (tgt := 20) hx hb dX3_readSign_16 (by decide) ?_
    refine lv_istore_n (lv' := [(2, .int 1), (0, .ref (B + 458)), (1, .int x)]) hx hb dX3_readSign_20 rfl hl (by decide) rfl (fun ls hl => ?_)
    refine lv_iload_n hx hb dX3_readSign_21 rfl (lv_at hl 0 rfl) ?_
    refine lv_if_eq (tgt := 35) hx hb dX3_readSign_22 (by decide) (fun c_22 => ?_) (fun c_22 => ?_)
    · exact absurd c_22 (by decide)
    · skip
      refine lv_aload_n hx hb dX3_readSign_25 rfl (lv_at hl 1 rfl) ?_
      refine lv_dup hx hb dX3_readSign_26 rfl ?_
      refine gX3_15 X hJ (w := u) rfl dX3_readSign_27 ?_
      refine lv_iconst (v := 1) hx hb dX3_readSign_30 (by decide) ?_
      refine lv_iadd hx hb dX3_readSign_31 ?_
      refine pX3_15 X hJ  dX3_readSign_32 (fun H locs hJ => ?_)
      refine lv_iload_n hx hb dX3_readSign_35 rfl (lv_at hl 0 rfl) ?_
      have hs : sX3_readSign u x = (1, upd u (4) ((u 4) + 1)) := by unfold sX3_readSign; rw [if_pos c_12]
      exact fin (by rw [hs]; dsimp only; exact hJ) (by rw [hs]) dX3_readSign_36

theorem Pd_sX3_readSign {u : Row} {x : Int32}  (h : Pd u) : Pd (sX3_readSign u x).2 := by
  unfold sX3_readSign
  exact Pd_i2 (Pd_p2 (Pd_upd (by decide) (h))) (Pd_p2 (h))
def bX3_readNumber_19  : Nat → Row → Int32 → Nat → Int32 × Row
  | 0, w19, _, _ => (0, w19)
  | n + 1, w19, nb, p => if 4 ≤ nI p then ((nb, w19)) else (if (sX3_nextDigit w19).1 = (-6) then ((nb, (sX3_nextDigit w19).2)) else (bX3_readNumber_19  n ((sX3_nextDigit w19).2) ((10 * nb) + ((sX3_nextDigit w19).1)) (p + 1)))
def sX3_readNumber (u : Row) : Int32 × Row := if (sX3_nextDigit u).1 = (-6) then (((sX3_nextDigit u).1, (sX3_nextDigit u).2)) else (if (sX3_nextDigit u).1 = 0 then (((sX3_nextDigit u).1, (sX3_nextDigit u).2)) else (bX3_readNumber_19  4 ((sX3_nextDigit u).2) ((sX3_nextDigit u).1) 1))
set_option maxHeartbeats 4000000 in
set_option maxRecDepth 100000 in
theorem mX3_readNumber (l : Launch) (E : EE) (B : Nat) (g : GS)  (u : Row) (hpd : Pd u) : CG l yX3_readNumber cX3_readNumber 4 (some .int) 2 42 E B [.ref (B + 458)] (upC g u) (some (.int (sX3_readNumber u).1)) (upC g ((sX3_readNumber u).2)) := by
  refine mkI (own := RX3) (ty := .int) rfl (by decide) rfl (rfl) (Nat.le_of_ble_eq_true rfl) (fun P_ e_ s_ m_ a_ below meth cd Q X fin ls hl hJ => ?_)
  have hx := X.1
  have hb := X.2.1
  have hl : lv_has ls 4 [(0, .ref (B + 458))] := hl
  have bk_19 : ∀ (n : Nat) (w19 : Row)  (nb : Int32)  (p : Nat), 4 - p < n → (Pd w19) → (p ≤ 4) → ∀ (H : Heap) (locs : List Loc) (ls : Array Slot), JG E B s_ (upC g w19) H locs → lv_has ls 4 [(0, .ref (B + 458)), (1, .int nb), (2, .int (nI p))] → sX3_readNumber u = bX3_readNumber_19  n w19 nb p → W P_ l e_ (rmm 2 42 0 0) s_ m_ a_ below meth cd H locs 0 0 Q (F0 m_ 19 ls []) := by
    intro n
    induction n with
    | zero => intro w19 nb p hm; exact absurd hm (Nat.not_lt_zero _)
    | succ n ih =>
      intro w19 nb p hm hpd hp H locs ls hJ hl hs
      refine lv_iload_n hx hb dX3_readNumber_19 rfl (lv_at hl 2 rfl) ?_
      refine lv_iconst (v := 4) hx hb dX3_readNumber_20 (by decide) ?_
      refine lv_icmp_ge (tgt := 50) hx hb dX3_readNumber_21 (by decide) (fun c_21 => ?_) (fun c_21 => ?_)
      · skip
        refine lv_iload_n hx hb dX3_readNumber_50 rfl (lv_at hl 1 rfl) ?_
        have hs : sX3_readNumber u = (nb, w19) := hs.trans (by rw [bX3_readNumber_19, if_pos c_21])
        exact fin (by rw [hs]; dsimp only; exact hJ) (by rw [hs]) dX3_readNumber_51
      · skip
        have hp2 := lit_lt (n := 4) c_21 (by omega) (by omega)
        refine lv_aload_n hx hb dX3_readNumber_24 rfl (lv_at hl 0 rfl) ?_
        refine kX3_64 X hJ (mX3_nextDigit l E B _ w19 (hpd)) rfl (by omega) (at_O rfl) hl.1 ⟨Nat.le_of_ble_eq_true rfl, Nat.le_of_ble_eq_true rfl⟩ ⟨Nat.le_refl _, Nat.le_refl _⟩ (rest := []) rfl (Nat.le_of_ble_eq_true rfl) dX3_readNumber_25 (fun H locs hJ => ?_)
        refine lv_istore_n (lv' := [(3, .int ((sX3_nextDigit w19).1)), (0, .ref (B + 458)), (1, .int nb), (2, .int (nI p))]) hx hb dX3_readNumber_28 rfl hl (by decide) rfl (fun ls hl => ?_)
        refine lv_iload_n hx hb dX3_readNumber_29 rfl (lv_at hl 0 rfl) ?_
        refine lv_bipush (v := (-6)) hx hb dX3_readNumber_30 (by decide) ?_
        refine lv_icmp_ne (tgt := 37) hx hb dX3_readNumber_32 (by decide) (fun c_32 => ?_) (fun c_32 => ?_)
        · skip
          refine lv_bipush (v := 10) hx hb dX3_readNumber_37 (by decide) ?_
          refine lv_iload_n hx hb dX3_readNumber_39 rfl (lv_at hl 2 rfl) ?_
          refine lv_imul hx hb dX3_readNumber_40 ?_
          refine lv_iload_n hx hb dX3_readNumber_41 rfl (lv_at hl 0 rfl) ?_
          refine lv_iadd hx hb dX3_readNumber_42 ?_
          refine lv_istore_n (lv' := [(1, .int ((10 * nb) + ((sX3_nextDigit w19).1))), (3, .int ((sX3_nextDigit w19).1)), (0, .ref (B + 458)), (2, .int (nI p))]) hx hb dX3_readNumber_43 rfl hl (by decide) rfl (fun ls hl => ?_)
          refine lv_iinc (v := nI (p + 1)) (lv' := [(2, .int (nI (p + 1))), (1, .int ((10 * nb) + ((sX3_nextDigit w19).1))), (3, .int ((sX3_nextDigit w19).1)), (0, .ref (B + 458))]) hx hb dX3_readNumber_44 hl (k := 3) rfl (by first | exact nI_add _ _ | rfl) (by decide) rfl (fun ls hl => ?_)
          refine lv_goto (tgt := 19) hx hb dX3_readNumber_47 (by decide) ?_
          have hs : sX3_readNumber u = bX3_readNumber_19  n ((sX3_nextDigit w19).2) ((10 * nb) + ((sX3_nextDigit w19).1)) (p + 1) := hs.trans (by rw [bX3_readNumber_19, if_neg c_21, if_neg c_32])
          exact ih ((sX3_nextDigit w19).2) ((10 * nb) + ((sX3_nextDigit w19).1)) (p + 1) (by omega) (Pd_sX3_nextDigit (hpd)) (by omega) _ _ _ hJ (lv_sub hl [3, 1, 0] rfl) hs
        · skip
          refine lv_iload_n hx hb dX3_readNumber_35 rfl (lv_at hl 2 rfl) ?_
          have hs : sX3_readNumber u = (nb, (sX3_nextDigit w19).2) := hs.trans (by rw [bX3_readNumber_19, if_neg c_21, if_pos c_32])
          exact fin (by rw [hs]; dsimp only; exact hJ) (by rw [hs]) dX3_readNumber_36
  refine lv_aload_n hx hb dX3_readNumber_0 rfl (lv_at hl 0 rfl) ?_
  refine kX3_64 X hJ (mX3_nextDigit l E B _ u (hpd)) rfl (by omega) (at_O rfl) hl.1 ⟨Nat.le_of_ble_eq_true rfl, Nat.le_of_ble_eq_true rfl⟩ ⟨Nat.le_refl _, Nat.le_refl _⟩ (rest := []) rfl (Nat.le_of_ble_eq_true rfl) dX3_readNumber_1 (fun H locs hJ => ?_)
  refine lv_istore_n (lv' := [(1, .int ((sX3_nextDigit u).1)), (0, .ref (B + 458))]) hx hb dX3_readNumber_4 rfl hl (by decide) rfl (fun ls hl => ?_)
  refine lv_iload_n hx hb dX3_readNumber_5 rfl (lv_at hl 0 rfl) ?_
  refine lv_bipush (v := (-6)) hx hb dX3_readNumber_6 (by decide) ?_
  refine lv_icmp_eq (tgt := 15) hx hb dX3_readNumber_8 (by decide) (fun c_8 => ?_) (fun c_8 => ?_)
  · skip
    refine lv_iload_n hx hb dX3_readNumber_15 rfl (lv_at hl 0 rfl) ?_
    have hs : sX3_readNumber u = ((sX3_nextDigit u).1, (sX3_nextDigit u).2) := by unfold sX3_readNumber; rw [if_pos c_8]
    exact fin (by rw [hs]; dsimp only; exact hJ) (by rw [hs]) dX3_readNumber_16
  · skip
    refine lv_iload_n hx hb dX3_readNumber_11 rfl (lv_at hl 0 rfl) ?_
    refine lv_if_ne (tgt := 17) hx hb dX3_readNumber_12 (by decide) (fun c_12 => ?_) (fun c_12 => ?_)
    · skip
      refine lv_iconst (v := 1) hx hb dX3_readNumber_17 (by decide) ?_
      refine lv_istore_n (lv' := [(2, .int 1), (1, .int ((sX3_nextDigit u).1)), (0, .ref (B + 458))]) hx hb dX3_readNumber_18 rfl hl (by decide) rfl (fun ls hl => ?_)
      have hs : sX3_readNumber u = bX3_readNumber_19  4 ((sX3_nextDigit u).2) ((sX3_nextDigit u).1) 1 := by unfold sX3_readNumber; rw [if_neg c_8, if_neg c_12]
      exact bk_19 4 ((sX3_nextDigit u).2) ((sX3_nextDigit u).1) 1 (by omega) (Pd_sX3_nextDigit (hpd)) (by omega) _ _ _ hJ (lv_sub hl [2, 1, 0] rfl) hs
    · skip
      refine lv_iload_n hx hb dX3_readNumber_15 rfl (lv_at hl 0 rfl) ?_
      have hs : sX3_readNumber u = ((sX3_nextDigit u).1, (sX3_nextDigit u).2) := by unfold sX3_readNumber; rw [if_neg c_8, if_pos c_12]
      exact fin (by rw [hs]; dsimp only; exact hJ) (by rw [hs]) dX3_readNumber_16

theorem Pd_bX3_readNumber_19  : ∀ (n : Nat) (w19 : Row) (nb : Int32) (p : Nat), Pd w19 → Pd (bX3_readNumber_19  n w19 nb p).2 := by
  intro n
  induction n with
  | zero => intro w19 nb p h; exact h
  | succ n ih =>
    intro w19 nb p h
    rw [bX3_readNumber_19]
    exact Pd_i2 (Pd_p2 (h)) (Pd_i2 (Pd_p2 (Pd_sX3_nextDigit (h))) (ih _ _ _ (Pd_sX3_nextDigit (h))))
theorem Pd_sX3_readNumber {u : Row}  (h : Pd u) : Pd (sX3_readNumber u).2 := by
  unfold sX3_readNumber
  exact Pd_i2 (Pd_p2 (Pd_sX3_nextDigit (h))) (Pd_i2 (Pd_p2 (Pd_sX3_nextDigit (h))) (Pd_bX3_readNumber_19 _ _ _ _ (Pd_sX3_nextDigit (h))))
def sX3_readDigit (u : Row) : Int32 × Row := if (upd ((sX3_nextDigit u).2) (6) ((sX3_nextDigit u).1)) 6 = (-6) then ((0, upd ((sX3_nextDigit u).2) (6) ((sX3_nextDigit u).1))) else ((1, upd ((sX3_nextDigit u).2) (6) ((sX3_nextDigit u).1)))
set_option maxHeartbeats 4000000 in
set_option maxRecDepth 100000 in
theorem mX3_readDigit (l : Launch) (E : EE) (B : Nat) (g : GS)  (u : Row) (hpd : Pd u) : CG l yX3_readDigit cX3_readDigit 1 (some .boolean) 2 42 E B [.ref (B + 458)] (upC g u) (some (.int (sX3_readDigit u).1)) (upC g ((sX3_readDigit u).2)) := by
  refine mkI (own := RX3) (ty := .boolean) rfl (by decide) rfl (by unfold sX3_readDigit; (repeat' split) <;> first | (show narrow .boolean (.int 0) = .int 0; rfl) | (show narrow .boolean (.int 1) = .int 1; rfl)) (Nat.le_of_ble_eq_true rfl) (fun P_ e_ s_ m_ a_ below meth cd Q X fin ls hl hJ => ?_)
  have hx := X.1
  have hb := X.2.1
  have hl : lv_has ls 1 [(0, .ref (B + 458))] := hl
  refine lv_aload_n hx hb dX3_readDigit_0 rfl (lv_at hl 0 rfl) ?_
  refine lv_aload_n hx hb dX3_readDigit_1 rfl (lv_at hl 0 rfl) ?_
  refine kX3_64 X hJ (mX3_nextDigit l E B _ u (hpd)) rfl (by omega) (at_O rfl) hl.1 ⟨Nat.le_of_ble_eq_true rfl, Nat.le_of_ble_eq_true rfl⟩ ⟨Nat.le_refl _, Nat.le_refl _⟩ (rest := [.ref (B + 458)]) rfl (Nat.le_of_ble_eq_true rfl) dX3_readDigit_2 (fun H locs hJ => ?_)
  refine pX3_61 X hJ  dX3_readDigit_5 (fun H locs hJ => ?_)
  refine lv_aload_n hx hb dX3_readDigit_8 rfl (lv_at hl 0 rfl) ?_
  refine gX3_61 X hJ (w := upd ((sX3_nextDigit u).2) (6) ((sX3_nextDigit u).1)) rfl dX3_readDigit_9 ?_
  refine lv_bipush (v := (-6)) hx hb dX3_readDigit_12 (by decide) ?_
  refine lv_icmp_eq (tgt := 21) hx hb dX3_readDigit_14 (by decide) (fun c_14 => ?_) (fun c_14 => ?_)
  · skip
    refine lv_iconst (v := 0) hx hb dX3_readDigit_21 (by decide) ?_
    have hs : sX3_readDigit u = (0, upd ((sX3_nextDigit u).2) (6) ((sX3_nextDigit u).1)) := by unfold sX3_readDigit; rw [if_pos c_14]
    exact fin (by rw [hs]; dsimp only; exact hJ) (by rw [hs]) dX3_readDigit_22
  · skip
    refine lv_iconst (v := 1) hx hb dX3_readDigit_17 (by decide) ?_
    refine lv_goto (tgt := 22) hx hb dX3_readDigit_18 (by decide) ?_
    have hs : sX3_readDigit u = (1, upd ((sX3_nextDigit u).2) (6) ((sX3_nextDigit u).1)) := by unfold sX3_readDigit; rw [if_neg c_14]
    exact fin (by rw [hs]; dsimp only; exact hJ) (by rw [hs]) dX3_readDigit_22

theorem Pd_sX3_readDigit {u : Row}  (h : Pd u) : Pd (sX3_readDigit u).2 := by
  unfold sX3_readDigit
  exact Pd_i2 (Pd_p2 (Pd_upd (by decide) (Pd_sX3_nextDigit (h)))) (Pd_p2 (Pd_upd (by decide) (Pd_sX3_nextDigit (h))))
theorem b01_readDigit {u : Row} : b01 (sX3_readDigit u).1 := by
  unfold sX3_readDigit; (repeat' split) <;> first | exact Or.inl rfl | exact Or.inr rfl
def sX3_readSecond (u : Row) : Int32 × Row := if (upd ((sX3_readNumber u).2) (7) ((sX3_readNumber u).1)) 7 = (-6) then ((0, upd ((sX3_readNumber u).2) (7) ((sX3_readNumber u).1))) else ((1, upd ((sX3_readNumber u).2) (7) ((sX3_readNumber u).1)))
set_option maxHeartbeats 4000000 in
set_option maxRecDepth 100000 in
theorem mX3_readSecond (l : Launch) (E : EE) (B : Nat) (g : GS)  (u : Row) (hpd : Pd u) : CG l yX3_readSecond cX3_readSecond 1 (some .boolean) 3 65 E B [.ref (B + 458)] (upC g u) (some (.int (sX3_readSecond u).1)) (upC g ((sX3_readSecond u).2)) := by
  refine mkI (own := RX3) (ty := .boolean) rfl (by decide) rfl (by unfold sX3_readSecond; (repeat' split) <;> first | (show narrow .boolean (.int 0) = .int 0; rfl) | (show narrow .boolean (.int 1) = .int 1; rfl)) (Nat.le_of_ble_eq_true rfl) (fun P_ e_ s_ m_ a_ below meth cd Q X fin ls hl hJ => ?_)
  have hx := X.1
  have hb := X.2.1
  have hl : lv_has ls 1 [(0, .ref (B + 458))] := hl
  refine lv_aload_n hx hb dX3_readSecond_0 rfl (lv_at hl 0 rfl) ?_
  refine lv_aload_n hx hb dX3_readSecond_1 rfl (lv_at hl 0 rfl) ?_
  refine kX3_57 X hJ (mX3_readNumber l E B _ u (hpd)) rfl (by omega) (at_O rfl) hl.1 ⟨Nat.le_of_ble_eq_true rfl, Nat.le_of_ble_eq_true rfl⟩ ⟨Nat.le_refl _, Nat.le_refl _⟩ (rest := [.ref (B + 458)]) rfl (Nat.le_of_ble_eq_true rfl) dX3_readSecond_2 (fun H locs hJ => ?_)
  refine pX3_67 X hJ  dX3_readSecond_5 (fun H locs hJ => ?_)
  refine lv_aload_n hx hb dX3_readSecond_8 rfl (lv_at hl 0 rfl) ?_
  refine gX3_67 X hJ (w := upd ((sX3_readNumber u).2) (7) ((sX3_readNumber u).1)) rfl dX3_readSecond_9 ?_
  refine lv_bipush (v := (-6)) hx hb dX3_readSecond_12 (by decide) ?_
  refine lv_icmp_eq (tgt := 21) hx hb dX3_readSecond_14 (by decide) (fun c_14 => ?_) (fun c_14 => ?_)
  · skip
    refine lv_iconst (v := 0) hx hb dX3_readSecond_21 (by decide) ?_
    have hs : sX3_readSecond u = (0, upd ((sX3_readNumber u).2) (7) ((sX3_readNumber u).1)) := by unfold sX3_readSecond; rw [if_pos c_14]
    exact fin (by rw [hs]; dsimp only; exact hJ) (by rw [hs]) dX3_readSecond_22
  · skip
    refine lv_iconst (v := 1) hx hb dX3_readSecond_17 (by decide) ?_
    refine lv_goto (tgt := 22) hx hb dX3_readSecond_18 (by decide) ?_
    have hs : sX3_readSecond u = (1, upd ((sX3_readNumber u).2) (7) ((sX3_readNumber u).1)) := by unfold sX3_readSecond; rw [if_neg c_14]
    exact fin (by rw [hs]; dsimp only; exact hJ) (by rw [hs]) dX3_readSecond_22

theorem Pd_sX3_readSecond {u : Row}  (h : Pd u) : Pd (sX3_readSecond u).2 := by
  unfold sX3_readSecond
  exact Pd_i2 (Pd_p2 (Pd_upd (by decide) (Pd_sX3_readNumber (h)))) (Pd_p2 (Pd_upd (by decide) (Pd_sX3_readNumber (h))))
theorem b01_readSecond {u : Row} : b01 (sX3_readSecond u).1 := by
  unfold sX3_readSecond; (repeat' split) <;> first | exact Or.inl rfl | exact Or.inr rfl
def sX3_readThird (u : Row) : Int32 × Row := if (upd ((sX3_readNumber u).2) (8) ((sX3_readNumber u).1)) 8 = (-6) then ((0, upd ((sX3_readNumber u).2) (8) ((sX3_readNumber u).1))) else ((1, upd ((sX3_readNumber u).2) (8) ((sX3_readNumber u).1)))
set_option maxHeartbeats 4000000 in
set_option maxRecDepth 100000 in
theorem mX3_readThird (l : Launch) (E : EE) (B : Nat) (g : GS)  (u : Row) (hpd : Pd u) : CG l yX3_readThird cX3_readThird 1 (some .boolean) 3 65 E B [.ref (B + 458)] (upC g u) (some (.int (sX3_readThird u).1)) (upC g ((sX3_readThird u).2)) := by
  refine mkI (own := RX3) (ty := .boolean) rfl (by decide) rfl (by unfold sX3_readThird; (repeat' split) <;> first | (show narrow .boolean (.int 0) = .int 0; rfl) | (show narrow .boolean (.int 1) = .int 1; rfl)) (Nat.le_of_ble_eq_true rfl) (fun P_ e_ s_ m_ a_ below meth cd Q X fin ls hl hJ => ?_)
  have hx := X.1
  have hb := X.2.1
  have hl : lv_has ls 1 [(0, .ref (B + 458))] := hl
  refine lv_aload_n hx hb dX3_readThird_0 rfl (lv_at hl 0 rfl) ?_
  refine lv_aload_n hx hb dX3_readThird_1 rfl (lv_at hl 0 rfl) ?_
  refine kX3_57 X hJ (mX3_readNumber l E B _ u (hpd)) rfl (by omega) (at_O rfl) hl.1 ⟨Nat.le_of_ble_eq_true rfl, Nat.le_of_ble_eq_true rfl⟩ ⟨Nat.le_refl _, Nat.le_refl _⟩ (rest := [.ref (B + 458)]) rfl (Nat.le_of_ble_eq_true rfl) dX3_readThird_2 (fun H locs hJ => ?_)
  refine pX3_70 X hJ  dX3_readThird_5 (fun H locs hJ => ?_)
  refine lv_aload_n hx hb dX3_readThird_8 rfl (lv_at hl 0 rfl) ?_
  refine gX3_70 X hJ (w := upd ((sX3_readNumber u).2) (8) ((sX3_readNumber u).1)) rfl dX3_readThird_9 ?_
  refine lv_bipush (v := (-6)) hx hb dX3_readThird_12 (by decide) ?_
  refine lv_icmp_eq (tgt := 21) hx hb dX3_readThird_14 (by decide) (fun c_14 => ?_) (fun c_14 => ?_)
  · skip
    refine lv_iconst (v := 0) hx hb dX3_readThird_21 (by decide) ?_
    have hs : sX3_readThird u = (0, upd ((sX3_readNumber u).2) (8) ((sX3_readNumber u).1)) := by unfold sX3_readThird; rw [if_pos c_14]
    exact fin (by rw [hs]; dsimp only; exact hJ) (by rw [hs]) dX3_readThird_22
  · skip
    refine lv_iconst (v := 1) hx hb dX3_readThird_17 (by decide) ?_
    refine lv_goto (tgt := 22) hx hb dX3_readThird_18 (by decide) ?_
    have hs : sX3_readThird u = (1, upd ((sX3_readNumber u).2) (8) ((sX3_readNumber u).1)) := by unfold sX3_readThird; rw [if_neg c_14]
    exact fin (by rw [hs]; dsimp only; exact hJ) (by rw [hs]) dX3_readThird_22

theorem Pd_sX3_readThird {u : Row}  (h : Pd u) : Pd (sX3_readThird u).2 := by
  unfold sX3_readThird
  exact Pd_i2 (Pd_p2 (Pd_upd (by decide) (Pd_sX3_readNumber (h)))) (Pd_p2 (Pd_upd (by decide) (Pd_sX3_readNumber (h))))
theorem b01_readThird {u : Row} : b01 (sX3_readThird u).1 := by
  unfold sX3_readThird; (repeat' split) <;> first | exact Or.inl rfl | exact Or.inr rfl
def sX3_readDigitPair (u : Row) : Int32 × Row := if (sX3_readDigit u).1 = 0 then ((0, (sX3_readDigit u).2)) else (if (upd ((sX3_nextDigit ((sX3_readDigit u).2)).2) (7) ((sX3_nextDigit ((sX3_readDigit u).2)).1)) 7 = (-6) then ((0, upd ((sX3_nextDigit ((sX3_readDigit u).2)).2) (7) ((sX3_nextDigit ((sX3_readDigit u).2)).1))) else ((1, upd ((sX3_nextDigit ((sX3_readDigit u).2)).2) (7) ((sX3_nextDigit ((sX3_readDigit u).2)).1))))
set_option maxHeartbeats 4000000 in
set_option maxRecDepth 100000 in
theorem mX3_readDigitPair (l : Launch) (E : EE) (B : Nat) (g : GS)  (u : Row) (hpd : Pd u) : CG l yX3_readDigitPair cX3_readDigitPair 1 (some .boolean) 3 62 E B [.ref (B + 458)] (upC g u) (some (.int (sX3_readDigitPair u).1)) (upC g ((sX3_readDigitPair u).2)) := by
  refine mkI (own := RX3) (ty := .boolean) rfl (by decide) rfl (by unfold sX3_readDigitPair; (repeat' split) <;> first | (show narrow .boolean (.int 0) = .int 0; rfl) | (show narrow .boolean (.int 1) = .int 1; rfl)) (Nat.le_of_ble_eq_true rfl) (fun P_ e_ s_ m_ a_ below meth cd Q X fin ls hl hJ => ?_)
  have hx := X.1
  have hb := X.2.1
  have hl : lv_has ls 1 [(0, .ref (B + 458))] := hl
  refine lv_aload_n hx hb dX3_readDigitPair_0 rfl (lv_at hl 0 rfl) ?_
  refine kX3_51 X hJ (mX3_readDigit l E B _ u (hpd)) rfl (by omega) (at_O rfl) hl.1 ⟨Nat.le_of_ble_eq_true rfl, Nat.le_of_ble_eq_true rfl⟩ ⟨Nat.le_refl _, Nat.le_refl _⟩ (rest := []) rfl (Nat.le_of_ble_eq_true rfl) dX3_readDigitPair_1 (fun H locs hJ => ?_)
  refine lv_if_ne (tgt := 9) hx hb dX3_readDigitPair_4 (by decide) (fun c_4 => ?_) (fun c_4 => ?_)
  · skip
    refine lv_aload_n hx hb dX3_readDigitPair_9 rfl (lv_at hl 0 rfl) ?_
    refine lv_aload_n hx hb dX3_readDigitPair_10 rfl (lv_at hl 0 rfl) ?_
    refine kX3_64 X hJ (mX3_nextDigit l E B _ ((sX3_readDigit u).2) (Pd_sX3_readDigit (hpd))) rfl (by omega) (at_O rfl) hl.1 ⟨Nat.le_of_ble_eq_true rfl, Nat.le_of_ble_eq_true rfl⟩ ⟨Nat.le_refl _, Nat.le_refl _⟩ (rest := [.ref (B + 458)]) rfl (Nat.le_of_ble_eq_true rfl) dX3_readDigitPair_11 (fun H locs hJ => ?_)
    refine pX3_67 X hJ  dX3_readDigitPair_14 (fun H locs hJ => ?_)
    refine lv_aload_n hx hb dX3_readDigitPair_17 rfl (lv_at hl 0 rfl) ?_
    refine gX3_67 X hJ (w := upd ((sX3_nextDigit ((sX3_readDigit u).2)).2) (7) ((sX3_nextDigit ((sX3_readDigit u).2)).1)) rfl dX3_readDigitPair_18 ?_
    refine lv_bipush (v := (-6)) hx hb dX3_readDigitPair_21 (by decide) ?_
    refine lv_icmp_eq (tgt := 30) hx hb dX3_readDigitPair_23 (by decide) (fun c_23 => ?_) (fun c_23 => ?_)
    · skip
      refine lv_iconst (v := 0) hx hb dX3_readDigitPair_30 (by decide) ?_
      have hs : sX3_readDigitPair u = (0, upd ((sX3_nextDigit ((sX3_readDigit u).2)).2) (7) ((sX3_nextDigit ((sX3_readDigit u).2)).1)) := by unfold sX3_readDigitPair; rw [if_neg c_4, if_pos c_23]
      exact fin (by rw [hs]; dsimp only; exact hJ) (by rw [hs]) dX3_readDigitPair_31
    · skip
      refine lv_iconst (v := 1) hx hb dX3_readDigitPair_26 (by decide) ?_
      refine lv_goto (tgt := 31) hx hb dX3_readDigitPair_27 (by decide) ?_
      have hs : sX3_readDigitPair u = (1, upd ((sX3_nextDigit ((sX3_readDigit u).2)).2) (7) ((sX3_nextDigit ((sX3_readDigit u).2)).1)) := by unfold sX3_readDigitPair; rw [if_neg c_4, if_neg c_23]
      exact fin (by rw [hs]; dsimp only; exact hJ) (by rw [hs]) dX3_readDigitPair_31
  · skip
    refine lv_iconst (v := 0) hx hb dX3_readDigitPair_7 (by decide) ?_
    have hs : sX3_readDigitPair u = (0, (sX3_readDigit u).2) := by unfold sX3_readDigitPair; rw [if_pos c_4]
    exact fin (by rw [hs]; dsimp only; exact hJ) (by rw [hs]) dX3_readDigitPair_8

theorem Pd_sX3_readDigitPair {u : Row}  (h : Pd u) : Pd (sX3_readDigitPair u).2 := by
  unfold sX3_readDigitPair
  exact Pd_i2 (Pd_p2 (Pd_sX3_readDigit (h))) (Pd_i2 (Pd_p2 (Pd_upd (by decide) (Pd_sX3_nextDigit (Pd_sX3_readDigit (h))))) (Pd_p2 (Pd_upd (by decide) (Pd_sX3_nextDigit (Pd_sX3_readDigit (h))))))
