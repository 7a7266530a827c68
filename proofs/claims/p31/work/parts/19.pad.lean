def Pd (u : Row) : Prop := sm (u 3) 80
theorem Pd_upd {u : Row} {j : Nat} {v : Int32} (h3 : ¬ j = 3) (h : Pd u) : Pd (upd u j v) := by
  unfold Pd
  rw [show upd u j v 3 = u 3 from if_neg (fun q => h3 q.symm)]
  exact h
theorem Pd_upd3 {u : Row} {j : Nat} {v : Int32} (h3 : ¬ j = 3) (h : Pd u) : Pd (upd u j v) := Pd_upd h3 h
def sX4_clear (u : Row) : Row := upd u (3) 0
set_option maxHeartbeats 4000000 in
set_option maxRecDepth 100000 in
theorem mX4_clear (l : Launch) (E : EE) (B : Nat) (g : GS)  (u : Row) : CG l yX4_clear cX4_clear 1 none 0 0 E B [.ref (B + 456)] (upC g u) none (upC g (sX4_clear u)) := by
  refine mkV (own := RX4) rfl (by decide) rfl (Nat.le_of_ble_eq_true rfl) (fun P_ e_ s_ m_ a_ below meth cd Q X _ fin ls hl hJ => ?_)
  have hx := X.1
  have hb := X.2.1
  have hl : lv_has ls 1 [(0, .ref (B + 456))] := hl
  refine lv_aload_n hx hb dX4_clear_0 rfl (lv_at hl 0 rfl) ?_
  refine lv_iconst (v := 0) hx hb dX4_clear_1 (by decide) ?_
  refine pX4_15 X hJ  dX4_clear_2 (fun H locs hJ => ?_)
  have hs : sX4_clear u = upd u (3) 0 := by unfold sX4_clear; rfl
  exact fin (by rw [hs]; exact hJ) dX4_clear_5

def sX4_codeAt (u : Row) (x : Int32) : Int32 := if x < 0 then ((-1)) else (if u 3 ≤ x then ((-1)) else (u (100 + (nn x))))
set_option maxHeartbeats 4000000 in
set_option maxRecDepth 100000 in
theorem mX4_codeAt (l : Launch) (E : EE) (B : Nat) (g : GS) (x : Int32) (u : Row) (hw : g.2.1 = u) (hpd : Pd u) : CG l yX4_codeAt cX4_codeAt 2 (some .int) 0 0 E B [.ref (B + 456), .int x] g (some (.int (sX4_codeAt u x))) g := by
  refine mkI (own := RX4) (ty := .int) rfl (by decide) rfl (rfl) (Nat.le_of_ble_eq_true rfl) (fun P_ e_ s_ m_ a_ below meth cd Q X fin ls hl hJ => ?_)
  have hx := X.1
  have hb := X.2.1
  have hl : lv_has ls 2 [(0, .ref (B + 456)), (1, .int x)] := hl
  refine lv_iload_n hx hb dX4_codeAt_0 rfl (lv_at hl 1 rfl) ?_
  refine lv_if_lt (tgt := 21) hx hb dX4_codeAt_1 (by decide) (fun c_1 => ?_) (fun c_1 => ?_)
  · skip
    refine lv_iconst (v := (-1)) hx hb dX4_codeAt_21 (by decide) ?_
    have hs : sX4_codeAt u x = (-1) := by unfold sX4_codeAt; rw [if_pos c_1]
    exact fin hJ (by rw [hs]) dX4_codeAt_22
  · skip
    refine lv_iload_n hx hb dX4_codeAt_4 rfl (lv_at hl 1 rfl) ?_
    refine lv_aload_n hx hb dX4_codeAt_5 rfl (lv_at hl 0 rfl) ?_
    refine gX4_15 X hJ (w := u) hw dX4_codeAt_6 ?_
    refine lv_icmp_ge (tgt := 21) hx hb dX4_codeAt_9 (by decide) (fun c_9 => ?_) (fun c_9 => ?_)
    · skip
      refine lv_iconst (v := (-1)) hx hb dX4_codeAt_21 (by decide) ?_
      have hs : sX4_codeAt u x = (-1) := by unfold sX4_codeAt; rw [if_neg c_1, if_pos c_9]
      exact fin hJ (by rw [hs]) dX4_codeAt_22
    · skip
      refine lv_aload_n hx hb dX4_codeAt_12 rfl (lv_at hl 0 rfl) ?_
      refine gX4_9 X hJ (w := u) hw dX4_codeAt_13 ?_
      refine lv_iload_n hx hb dX4_codeAt_16 rfl (lv_at hl 1 rfl) ?_
      refine cvt (y := nI (nn x)) ((nn_lt c_1 c_9 hpd).1) ?_
      refine ld_codes X hJ (w := u) hw (j := nn x) (rfl) ((nn_lt c_1 c_9 hpd).2.2) dX4_codeAt_17 ?_
      refine lv_goto (tgt := 22) hx hb dX4_codeAt_18 (by decide) ?_
      have hs : sX4_codeAt u x = u (100 + (nn x)) := by unfold sX4_codeAt; rw [if_neg c_1, if_neg c_9]
      exact fin hJ (by rw [hs]) dX4_codeAt_22

def sX4_append (u : Row) (x : Int32) : Row := if 80 ≤ u 3 then (u) else (upd (upd u (100 + (nn (u 3))) x) (3) (((upd u (100 + (nn (u 3))) x) 3) + 1))
set_option maxHeartbeats 4000000 in
set_option maxRecDepth 100000 in
theorem mX4_append (l : Launch) (E : EE) (B : Nat) (g : GS) (x : Int32) (u : Row) (hpd : Pd u) : CG l yX4_append cX4_append 2 none 0 0 E B [.ref (B + 456), .int x] (upC g u) none (upC g (sX4_append u x)) := by
  refine mkV (own := RX4) rfl (by decide) rfl (Nat.le_of_ble_eq_true rfl) (fun P_ e_ s_ m_ a_ below meth cd Q X _ fin ls hl hJ => ?_)
  have hx := X.1
  have hb := X.2.1
  have hl : lv_has ls 2 [(0, .ref (B + 456)), (1, .int x)] := hl
  refine lv_aload_n hx hb dX4_append_0 rfl (lv_at hl 0 rfl) ?_
  refine gX4_15 X hJ (w := u) rfl dX4_append_1 ?_
  refine lv_bipush (v := 80) hx hb dX4_append_4 (by decide) ?_
  refine lv_icmp_ge (tgt := 29) hx hb dX4_append_6 (by decide) (fun c_6 => ?_) (fun c_6 => ?_)
  · skip
    have hs : sX4_append u x = u := by unfold sX4_append; rw [if_pos c_6]
    exact fin (by rw [hs]; exact hJ) dX4_append_29
  · skip
    have hq9 : nn (u 3) < 80 := nlt_lit (n := 80) c_6 hpd (by omega)
    refine lv_aload_n hx hb dX4_append_9 rfl (lv_at hl 0 rfl) ?_
    refine gX4_9 X hJ (w := u) rfl dX4_append_10 ?_
    refine lv_aload_n hx hb dX4_append_13 rfl (lv_at hl 0 rfl) ?_
    refine gX4_15 X hJ (w := u) rfl dX4_append_14 ?_
    refine cvt (y := nI (nn (u 3))) (hpd.eq) ?_
    refine lv_iload_n hx hb dX4_append_17 rfl (lv_at hl 1 rfl) ?_
    refine st_codes X hJ (j := nn (u 3)) (rfl) (by omega) dX4_append_18 (fun H locs hJ => ?_)
    refine lv_aload_n hx hb dX4_append_19 rfl (lv_at hl 0 rfl) ?_
    refine lv_dup hx hb dX4_append_20 rfl ?_
    refine gX4_15 X hJ (w := upd u (100 + (nn (u 3))) x) rfl dX4_append_21 ?_
    refine lv_iconst (v := 1) hx hb dX4_append_24 (by decide) ?_
    refine lv_iadd hx hb dX4_append_25 ?_
    refine pX4_15 X hJ  dX4_append_26 (fun H locs hJ => ?_)
    have hs : sX4_append u x = upd (upd u (100 + (nn (u 3))) x) (3) (((upd u (100 + (nn (u 3))) x) 3) + 1) := by unfold sX4_append; rw [if_neg c_6]
    exact fin (by rw [hs]; exact hJ) dX4_append_29

theorem Pd_append {u : Row} {x : Int32} (h : Pd u) : Pd (sX4_append u x) := by
  unfold sX4_append
  by_cases c : 80 ≤ u 3
  · rw [if_pos c]; exact h
  · rw [if_neg c]
    have hq := nlt_lit (n := 80) c h (by omega)
    have e : upd u (100 + nn (u 3)) x 3 = u 3 := if_neg (by omega)
    unfold Pd
    rw [show ∀ v : Int32, upd (upd u (100 + nn (u 3)) x) 3 v 3 = v from fun v => if_pos rfl, e]
    have e2 : u 3 + 1 = nI (nn (u 3) + 1) := by rw [← nI_1, ← (show u 3 = nI (nn (u 3)) from h.eq)]
    rw [e2]
    exact sm_nI (by omega) (by omega)
theorem Pd_clear {u : Row} : Pd (sX4_clear u) := (show sm (0 : Int32) 80 from ⟨by decide, by decide⟩)
/-- how many digits: a measure of the units -/
def dgf : Nat → Int → Nat
  | 0, _ => 0
  | k + 1, x => if x < 1 then 0 else 1 + dgf k (x / 10)
theorem dgf_s (k : Nat) (y : Int) : dgf (k + 1) y = if y < 1 then 0 else 1 + dgf k (y / 10) := rfl
theorem dgf_stab : ∀ (k : Nat) (y : Int), y < 10 ^ k → dgf (k + 1) y = dgf k y := by
  intro k
  induction k with
  | zero => intro y h; rw [dgf_s, if_pos (by simpa using h)]; rfl
  | succ k ih =>
    intro y h
    rw [dgf_s (k + 1) y, dgf_s k y]
    by_cases c : y < 1
    · rw [if_pos c, if_pos c]
    · rw [if_neg c, if_neg c, ih (y / 10) (by rw [Int.pow_succ] at h; omega)]
def dg (v : Int32) : Nat := dgf 10 v.toInt
theorem div10 {v : Int32} (h : 0 ≤ v.toInt) : (v / 10).toInt = v.toInt / 10 := by
  have e : (10 : Int32).toInt = 10 := by decide
  rw [Int32.toInt_div_of_ne_right _ _ (by decide), e, Int.tdiv_eq_ediv_of_nonneg h]
theorem dg_div {v : Int32} (h : ¬ v < 1) : dg (v / 10) < dg v ∧ 0 ≤ (v / 10).toInt := by
  rw [Int32.lt_iff_toInt_lt, show (1 : Int32).toInt = 1 from by decide] at h
  have e := div10 (v := v) (by omega)
  have hb := v.toInt_lt
  refine ⟨?_, by omega⟩
  unfold dg
  rw [e, dgf_stab 9 (v.toInt / 10) (by show v.toInt / 10 < 1000000000; omega)]
  rw [show dgf 10 v.toInt = if v.toInt < 1 then 0 else 1 + dgf 9 (v.toInt / 10) from rfl, if_neg h]
  omega
theorem ne0_nlt1 {v : Int32} (h : ¬ v < 1) : ¬ v = 0 := fun q => h (by rw [q]; decide)
def bX4_appendNumber_3 (x : Int32) : Nat → Row → Int32 → Row
  | 0, w3, _ => w3
  | n + 1, w3, un => if un < 1 then (w3) else (if un ≤ x then (bX4_appendNumber_3 x n (sX4_append w3 (48 + ((x / un) - (x / un) / 10 * 10))) (un / 10)) else (if un = 1 then (bX4_appendNumber_3 x n (sX4_append w3 (48 + ((x / un) - (x / un) / 10 * 10))) (un / 10)) else (bX4_appendNumber_3 x n w3 (un / 10))))
def sX4_appendNumber (u : Row) (x : Int32) : Row := bX4_appendNumber_3 x 11 u 1000000000
set_option maxHeartbeats 4000000 in
set_option maxRecDepth 100000 in
theorem mX4_appendNumber (l : Launch) (E : EE) (B : Nat) (g : GS) (x : Int32) (u : Row) (hpd : Pd u) : CG l yX4_appendNumber cX4_appendNumber 3 none 1 21 E B [.ref (B + 456), .int x] (upC g u) none (upC g (sX4_appendNumber u x)) := by
  refine mkV (own := RX4) rfl (by decide) rfl (Nat.le_of_ble_eq_true rfl) (fun P_ e_ s_ m_ a_ below meth cd Q X _ fin ls hl hJ => ?_)
  have hx := X.1
  have hb := X.2.1
  have hl : lv_has ls 3 [(0, .ref (B + 456)), (1, .int x)] := hl
  have bk_3 : ∀ (n : Nat) (w3 : Row)  (un : Int32), dg un < n → (Pd w3) → ∀ (H : Heap) (locs : List Loc) (ls : Array Slot), JG E B s_ (upC g w3) H locs → lv_has ls 3 [(0, .ref (B + 456)), (1, .int x), (2, .int un)] → sX4_appendNumber u x = bX4_appendNumber_3 x n w3 un → W P_ l e_ (rmm 1 21 0 0) s_ m_ a_ below meth cd H locs 0 0 Q (F0 m_ 3 ls []) := by
    intro n
    induction n with
    | zero => intro w3 un hm; exact absurd hm (Nat.not_lt_zero _)
    | succ n ih =>
      intro w3 un hm hpd H locs ls hJ hl hs
      refine lv_iload_n hx hb dX4_appendNumber_3 rfl (lv_at hl 2 rfl) ?_
      refine lv_iconst (v := 1) hx hb dX4_appendNumber_4 (by decide) ?_
      refine lv_icmp_lt (tgt := 39) hx hb dX4_appendNumber_5 (by decide) (fun c_5 => ?_) (fun c_5 => ?_)
      · skip
        have hs : sX4_appendNumber u x = w3 := hs.trans (by rw [bX4_appendNumber_3, if_pos c_5])
        exact fin (by rw [hs]; exact hJ) dX4_appendNumber_39
      · skip
        refine lv_iload_n hx hb dX4_appendNumber_8 rfl (lv_at hl 1 rfl) ?_
        refine lv_iload_n hx hb dX4_appendNumber_9 rfl (lv_at hl 2 rfl) ?_
        refine lv_icmp_ge (tgt := 18) hx hb dX4_appendNumber_10 (by decide) (fun c_10 => ?_) (fun c_10 => ?_)
        · skip
          refine lv_aload_n hx hb dX4_appendNumber_18 rfl (lv_at hl 0 rfl) ?_
          refine lv_bipush (v := 48) hx hb dX4_appendNumber_19 (by decide) ?_
          refine lv_iload_n hx hb dX4_appendNumber_21 rfl (lv_at hl 1 rfl) ?_
          refine lv_iload_n hx hb dX4_appendNumber_22 rfl (lv_at hl 2 rfl) ?_
          refine lv_idiv hx hb dX4_appendNumber_23 (ne0_nlt1 c_5) ?_
          refine lv_bipush (v := 10) hx hb dX4_appendNumber_24 (by decide) ?_
          refine lv_irem hx hb dX4_appendNumber_26 (by decide) ?_
          refine lv_iadd hx hb dX4_appendNumber_27 ?_
          refine kX4_20 X hJ (mX4_append l E B _ (48 + ((x / un) - (x / un) / 10 * 10)) w3 (hpd)) rfl (by omega) (at_P rfl) hl.1 ⟨Nat.le_of_ble_eq_true rfl, Nat.le_of_ble_eq_true rfl⟩ ⟨Nat.le_refl _, Nat.le_refl _⟩ (rest := []) rfl (Nat.le_of_ble_eq_true rfl) dX4_appendNumber_28 (fun H locs hJ => ?_)
          refine lv_iload_n hx hb dX4_appendNumber_31 rfl (lv_at hl 2 rfl) ?_
          refine lv_bipush (v := 10) hx hb dX4_appendNumber_32 (by decide) ?_
          refine lv_idiv hx hb dX4_appendNumber_34 (by decide) ?_
          refine lv_istore_n (lv' := [(2, .int (un / 10)), (0, .ref (B + 456)), (1, .int x)]) hx hb dX4_appendNumber_35 rfl hl (by decide) rfl (fun ls hl => ?_)
          refine lv_goto (tgt := 3) hx hb dX4_appendNumber_36 (by decide) ?_
          have hs : sX4_appendNumber u x = bX4_appendNumber_3 x n (sX4_append w3 (48 + ((x / un) - (x / un) / 10 * 10))) (un / 10) := hs.trans (by rw [bX4_appendNumber_3, if_neg c_5, if_pos c_10])
          exact ih (sX4_append w3 (48 + ((x / un) - (x / un) / 10 * 10))) (un / 10) (by have := dg_div c_5; omega) (Pd_append (hpd)) _ _ _ hJ (lv_sub hl [1, 2, 0] rfl) hs
        · skip
          refine lv_iload_n hx hb dX4_appendNumber_13 rfl (lv_at hl 2 rfl) ?_
          refine lv_iconst (v := 1) hx hb dX4_appendNumber_14 (by decide) ?_
          refine lv_icmp_ne (tgt := 31) hx hb dX4_appendNumber_15 (by decide) (fun c_15 => ?_) (fun c_15 => ?_)
          · skip
            refine lv_iload_n hx hb dX4_appendNumber_31 rfl (lv_at hl 2 rfl) ?_
            refine lv_bipush (v := 10) hx hb dX4_appendNumber_32 (by decide) ?_
            refine lv_idiv hx hb dX4_appendNumber_34 (by decide) ?_
            refine lv_istore_n (lv' := [(2, .int (un / 10)), (0, .ref (B + 456)), (1, .int x)]) hx hb dX4_appendNumber_35 rfl hl (by decide) rfl (fun ls hl => ?_)
            refine lv_goto (tgt := 3) hx hb dX4_appendNumber_36 (by decide) ?_
            have hs : sX4_appendNumber u x = bX4_appendNumber_3 x n w3 (un / 10) := hs.trans (by rw [bX4_appendNumber_3, if_neg c_5, if_neg c_10, if_neg c_15])
            exact ih w3 (un / 10) (by have := dg_div c_5; omega) (hpd) _ _ _ hJ (lv_sub hl [1, 2, 0] rfl) hs
          · skip
            refine lv_aload_n hx hb dX4_appendNumber_18 rfl (lv_at hl 0 rfl) ?_
            refine lv_bipush (v := 48) hx hb dX4_appendNumber_19 (by decide) ?_
            refine lv_iload_n hx hb dX4_appendNumber_21 rfl (lv_at hl 1 rfl) ?_
            refine lv_iload_n hx hb dX4_appendNumber_22 rfl (lv_at hl 2 rfl) ?_
            refine lv_idiv hx hb dX4_appendNumber_23 (ne0_nlt1 c_5) ?_
            refine lv_bipush (v := 10) hx hb dX4_appendNumber_24 (by decide) ?_
            refine lv_irem hx hb dX4_appendNumber_26 (by decide) ?_
            refine lv_iadd hx hb dX4_appendNumber_27 ?_
            refine kX4_20 X hJ (mX4_append l E B _ (48 + ((x / un) - (x / un) / 10 * 10)) w3 (hpd)) rfl (by omega) (at_P rfl) hl.1 ⟨Nat.le_of_ble_eq_true rfl, Nat.le_of_ble_eq_true rfl⟩ ⟨Nat.le_refl _, Nat.le_refl _⟩ (rest := []) rfl (Nat.le_of_ble_eq_true rfl) dX4_appendNumber_28 (fun H locs hJ => ?_)
            refine lv_iload_n hx hb dX4_appendNumber_31 rfl (lv_at hl 2 rfl) ?_
            refine lv_bipush (v := 10) hx hb dX4_appendNumber_32 (by decide) ?_
            refine lv_idiv hx hb dX4_appendNumber_34 (by decide) ?_
            refine lv_istore_n (lv' := [(2, .int (un / 10)), (0, .ref (B + 456)), (1, .int x)]) hx hb dX4_appendNumber_35 rfl hl (by decide) rfl (fun ls hl => ?_)
            refine lv_goto (tgt := 3) hx hb dX4_appendNumber_36 (by decide) ?_
            have hs : sX4_appendNumber u x = bX4_appendNumber_3 x n (sX4_append w3 (48 + ((x / un) - (x / un) / 10 * 10))) (un / 10) := hs.trans (by rw [bX4_appendNumber_3, if_neg c_5, if_neg c_10, if_pos c_15])
            exact ih (sX4_append w3 (48 + ((x / un) - (x / un) / 10 * 10))) (un / 10) (by have := dg_div c_5; omega) (Pd_append (hpd)) _ _ _ hJ (lv_sub hl [1, 2, 0] rfl) hs
  refine lv_ldc (own := RX4) hx hb X.2.2.2.1 (X.2.2.2.2.1 (.constant RX4 19 1000000000) (tw (i := 516) (by decide +kernel) (by decide))) dX4_appendNumber_0 ?_
  refine lv_istore_n (lv' := [(2, .int 1000000000), (0, .ref (B + 456)), (1, .int x)]) hx hb dX4_appendNumber_2 rfl hl (by decide) rfl (fun ls hl => ?_)
  have hs : sX4_appendNumber u x = bX4_appendNumber_3 x 11 u 1000000000 := by unfold sX4_appendNumber; rfl
  exact bk_3 11 u 1000000000 (by decide) (hpd) _ _ _ hJ (lv_sub hl [1, 2, 0] rfl) hs

theorem Pd_appendNumber {u : Row} {x : Int32} (h : Pd u) : Pd (sX4_appendNumber u x) := by
  have key : ∀ (n : Nat) (u : Row) (un : Int32), Pd u → Pd (bX4_appendNumber_3 x n u un) := by
    intro n
    induction n with
    | zero => intro u un h; exact h
    | succ n ih =>
      intro u un h
      rw [bX4_appendNumber_3]
      (repeat' split) <;> first | exact h | exact ih _ _ h | exact ih _ _ (Pd_append h)
  unfold sX4_appendNumber
  exact key _ _ _ h
