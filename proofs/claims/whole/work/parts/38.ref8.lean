/-- the pad's length is small, and so is the spot, which is s or more -/
def Pq (s : Nat) (r : Row) : Prop := Pt r ∧ s ≤ nn (r 2)
theorem Pq0 {r : Row} (h : Pt r) : Pq 0 r := ⟨h, Nat.zero_le _⟩
theorem Pq_upd {s : Nat} {r : Row} {j : Nat} {v : Int32} (h1 : ¬ j = 1) (h2 : ¬ j = 2) (h : Pq s r) : Pq s (upd r j v) := by
  refine ⟨⟨?_, ?_⟩, ?_⟩
  · rw [updn (fun q => h1 q.symm)]; exact h.1.1
  · rw [updn (fun q => h2 q.symm)]; exact h.1.2
  · rw [updn (fun q => h2 q.symm)]; exact h.2
theorem Pq_iv {s : Nat} {c : Prop} {i : Decidable c} {a b : Row} (h1 : Pq s a) (h2 : Pq s b) : Pq s (@ite _ c i a b) := by cases i <;> assumption
theorem Pq_i2 {β : Type} {s : Nat} {c : Prop} {i : Decidable c} {a b : β × Row} (h1 : Pq s a.2) (h2 : Pq s b.2) : Pq s (@ite _ c i a b).2 := by cases i <;> assumption
theorem Pq_j2 {β : Type} {s : Nat} {c : Prop} {i : Decidable c} {a b : β × Row} (h1 : c → Pq s a.2) (h2 : ¬ c → Pq s b.2) : Pq s (@ite _ c i a b).2 := by
  cases i with
  | isTrue h => exact h1 h
  | isFalse h => exact h2 h
theorem Pq_1 {s : Nat} {r : Row} {v : Int32} (hv : sm v 80) (h : Pq s r) : Pq s (upd r 1 v) := by
  refine ⟨⟨hv, ?_⟩, ?_⟩
  · rw [updn (by omega)]; exact h.1.2
  · rw [updn (by omega)]; exact h.2
theorem Pq_2 {s s' : Nat} {r : Row} {v : Int32} (hv : sm v 80) (hs : s' ≤ nn v) (h : Pq s r) : Pq s' (upd r 2 v) := by
  refine ⟨⟨?_, hv⟩, hs⟩
  rw [updn (by omega)]; exact h.1.1
theorem smi {v : Int32} {n m : Nat} (hv : sm v m) (hn : nn v < n) (h : n < 2 ^ 31) : sm (v + 1) n ∧ nn (v + 1) = nn v + 1 := by
  have e : v + 1 = nI (nn v + 1) := by rw [← nI_1, ← (show v = nI (nn v) from hv.eq)]
  rw [e, nn_nI (by omega)]
  exact ⟨sm_nI (by omega) h, rfl⟩
def sX7_types (r : Row) (x : Int32) : Row := if 80 ≤ r 1 then (r) else (upd (upd r (100 + (nn (r 1))) x) (1) (((upd r (100 + (nn (r 1))) x) 1) + 1))
set_option maxHeartbeats 4000000 in
set_option maxRecDepth 100000 in
theorem mX7_types (l : Launch) (E : EE) (B : Nat) (g : GS) (x : Int32) (r : Row)  (hpt : Pq 0 r) : CG l yX7_types cX7_types 2 none 0 0 E B [.ref (B + 459), .int x] (upR g r) none (upR g (sX7_types r x)) := by
  refine mkV (own := RX7) rfl (by decide) rfl (Nat.le_of_ble_eq_true rfl) (fun P_ e_ s_ m_ a_ below meth cd Q X _ fin ls hl hJ => ?_)
  have hx := X.1
  have hb := X.2.1
  have hl : lv_has ls 2 [(0, .ref (B + 459)), (1, .int x)] := hl
  refine lv_aload_n hx hb dX7_types_0 rfl (lv_at hl 0 rfl) ?_
  refine gX7_156 X hJ (w := r) rfl dX7_types_1 ?_
  refine lv_bipush (v := 80) hx hb dX7_types_4 (by decide) ?_
  refine lv_icmp_ge (tgt := 29) hx hb dX7_types_6 (by decide) (fun c_6 => ?_) (fun c_6 => ?_)
  · skip
    have hs : sX7_types r x = r := by unfold sX7_types; rw [if_pos c_6]
    exact fin (by rw [hs]; exact hJ) dX7_types_29
  · skip
    have hq9 : nn (r 1) < 80 := nlt_lit (n := 80) c_6 hpt.1.1 (by omega)
    refine lv_aload_n hx hb dX7_types_9 rfl (lv_at hl 0 rfl) ?_
    refine gX7_17 X hJ (w := r) rfl dX7_types_10 ?_
    refine lv_aload_n hx hb dX7_types_13 rfl (lv_at hl 0 rfl) ?_
    refine gX7_156 X hJ (w := r) rfl dX7_types_14 ?_
    refine cvt (y := nI (nn (r 1))) (hpt.1.1.eq) ?_
    refine lv_iload_n hx hb dX7_types_17 rfl (lv_at hl 1 rfl) ?_
    refine st_text X hJ (j := nn (r 1)) (rfl) (by omega) dX7_types_18 (fun H locs hJ => ?_)
    refine lv_aload_n hx hb dX7_types_19 rfl (lv_at hl 0 rfl) ?_
    refine lv_dup hx hb dX7_types_20 rfl ?_
    refine gX7_156 X hJ (w := upd r (100 + (nn (r 1))) x) rfl dX7_types_21 ?_
    refine lv_iconst (v := 1) hx hb dX7_types_24 (by decide) ?_
    refine lv_iadd hx hb dX7_types_25 ?_
    refine pX7_156 X hJ  dX7_types_26 (fun H locs hJ => ?_)
    have hs : sX7_types r x = upd (upd r (100 + (nn (r 1))) x) (1) (((upd r (100 + (nn (r 1))) x) 1) + 1) := by unfold sX7_types; rw [if_neg c_6]
    exact fin (by rw [hs]; exact hJ) dX7_types_29

theorem Pq_types {s : Nat} {r : Row} {x : Int32} (h : Pq s r) : Pq s (sX7_types r x) := by
  unfold sX7_types
  by_cases c : 80 ≤ r 1
  · rw [if_pos c]; exact h
  · rw [if_neg c]
    have hq := nlt_lit (n := 80) c h.1.1 (by omega)
    refine Pq_1 ?_ (Pq_upd (by omega) (by omega) h)
    rw [updn (by omega)]
    exact (smi h.1.1 hq (by omega)).1
theorem nle1 {v : Int32} (h : v < 1) : v ≤ 1 := by
  rw [Int32.lt_iff_toInt_lt] at h
  rw [Int32.le_iff_toInt_le]
  omega
def bX7_typesNumber_3 (x : Int32) : Nat → Row → Int32 → Row
  | 0, w3, _ => w3
  | n + 1, w3, un => if un ≤ 1 then ((sX7_types w3 (48 + (x - x / 10 * 10)))) else (if x < un then (bX7_typesNumber_3 x n w3 (un / 10)) else (bX7_typesNumber_3 x n (sX7_types w3 (48 + ((x / un) - (x / un) / 10 * 10))) (un / 10)))
def sX7_typesNumber (r : Row) (x : Int32) : Row := bX7_typesNumber_3 x 7 r 100000
set_option maxHeartbeats 4000000 in
set_option maxRecDepth 100000 in
theorem mX7_typesNumber (l : Launch) (E : EE) (B : Nat) (g : GS) (x : Int32) (r : Row)  (hpt : Pq 0 r) : CG l yX7_typesNumber cX7_typesNumber 3 none 1 21 E B [.ref (B + 459), .int x] (upR g r) none (upR g (sX7_typesNumber r x)) := by
  refine mkV (own := RX7) rfl (by decide) rfl (Nat.le_of_ble_eq_true rfl) (fun P_ e_ s_ m_ a_ below meth cd Q X _ fin ls hl hJ => ?_)
  have hx := X.1
  have hb := X.2.1
  have hl : lv_has ls 3 [(0, .ref (B + 459)), (1, .int x)] := hl
  have bk_3 : ∀ (n : Nat) (w3 : Row)  (un : Int32), dg un < n → (Pq 0 w3) → ∀ (H : Heap) (locs : List Loc) (ls : Array Slot), JG E B s_ (upR g w3) H locs → lv_has ls 3 [(0, .ref (B + 459)), (1, .int x), (2, .int un)] → sX7_typesNumber r x = bX7_typesNumber_3 x n w3 un → W P_ l e_ (rmm 1 21 0 0) s_ m_ a_ below meth cd H locs 0 0 Q (F0 m_ 3 ls []) := by
    intro n
    induction n with
    | zero => intro w3 un hm; exact absurd hm (Nat.not_lt_zero _)
    | succ n ih =>
      intro w3 un hm hpt H locs ls hJ hl hs
      refine lv_iload_n hx hb dX7_typesNumber_3 rfl (lv_at hl 2 rfl) ?_
      refine lv_iconst (v := 1) hx hb dX7_typesNumber_4 (by decide) ?_
      refine lv_icmp_le (tgt := 34) hx hb dX7_typesNumber_5 (by decide) (fun c_5 => ?_) (fun c_5 => ?_)
      · skip
        refine lv_aload_n hx hb dX7_typesNumber_34 rfl (lv_at hl 0 rfl) ?_
        refine lv_bipush (v := 48) hx hb dX7_typesNumber_35 (by decide) ?_
        refine lv_iload_n hx hb dX7_typesNumber_37 rfl (lv_at hl 1 rfl) ?_
        refine lv_bipush (v := 10) hx hb dX7_typesNumber_38 (by decide) ?_
        refine lv_irem hx hb dX7_typesNumber_40 (by decide) ?_
        refine lv_iadd hx hb dX7_typesNumber_41 ?_
        refine kX7_160 X hJ (mX7_types l E B _ (48 + (x - x / 10 * 10)) w3 (hpt)) rfl (by omega) (at_M rfl) hl.1 ⟨Nat.le_of_ble_eq_true rfl, Nat.le_of_ble_eq_true rfl⟩ ⟨Nat.le_refl _, Nat.le_refl _⟩ (rest := []) rfl (Nat.le_of_ble_eq_true rfl) dX7_typesNumber_42 (fun H locs hJ => ?_)
        have hs : sX7_typesNumber r x = (sX7_types w3 (48 + (x - x / 10 * 10))) := hs.trans (by rw [bX7_typesNumber_3, if_pos c_5])
        exact fin (by rw [hs]; exact hJ) dX7_typesNumber_45
      · skip
        refine lv_iload_n hx hb dX7_typesNumber_8 rfl (lv_at hl 1 rfl) ?_
        refine lv_iload_n hx hb dX7_typesNumber_9 rfl (lv_at hl 2 rfl) ?_
        refine lv_icmp_lt (tgt := 26) hx hb dX7_typesNumber_10 (by decide) (fun c_10 => ?_) (fun c_10 => ?_)
        · skip
          refine lv_iload_n hx hb dX7_typesNumber_26 rfl (lv_at hl 2 rfl) ?_
          refine lv_bipush (v := 10) hx hb dX7_typesNumber_27 (by decide) ?_
          refine lv_idiv hx hb dX7_typesNumber_29 (by decide) ?_
          refine lv_istore_n (lv' := [(2, .int (un / 10)), (0, .ref (B + 459)), (1, .int x)]) hx hb dX7_typesNumber_30 rfl hl (by decide) rfl (fun ls hl => ?_)
          refine lv_goto (tgt := 3) hx hb dX7_typesNumber_31 (by decide) ?_
          have hs : sX7_typesNumber r x = bX7_typesNumber_3 x n w3 (un / 10) := hs.trans (by rw [bX7_typesNumber_3, if_neg c_5, if_pos c_10])
          exact ih w3 (un / 10) (by have := dg_div (v := un) (fun q => c_5 (nle1 q)); omega) (hpt) _ _ _ hJ (lv_sub hl [1, 2, 0] rfl) hs
        · skip
          refine lv_aload_n hx hb dX7_typesNumber_13 rfl (lv_at hl 0 rfl) ?_
          refine lv_bipush (v := 48) hx hb dX7_typesNumber_14 (by decide) ?_
          refine lv_iload_n hx hb dX7_typesNumber_16 rfl (lv_at hl 1 rfl) ?_
          refine lv_iload_n hx hb dX7_typesNumber_17 rfl (lv_at hl 2 rfl) ?_
          refine lv_idiv hx hb dX7_typesNumber_18 (fun q => c_5 (by rw [q]; decide)) ?_
          refine lv_bipush (v := 10) hx hb dX7_typesNumber_19 (by decide) ?_
          refine lv_irem hx hb dX7_typesNumber_21 (by decide) ?_
          refine lv_iadd hx hb dX7_typesNumber_22 ?_
          refine kX7_160 X hJ (mX7_types l E B _ (48 + ((x / un) - (x / un) / 10 * 10)) w3 (hpt)) rfl (by omega) (at_M rfl) hl.1 ⟨Nat.le_of_ble_eq_true rfl, Nat.le_of_ble_eq_true rfl⟩ ⟨Nat.le_refl _, Nat.le_refl _⟩ (rest := []) rfl (Nat.le_of_ble_eq_true rfl) dX7_typesNumber_23 (fun H locs hJ => ?_)
          refine lv_iload_n hx hb dX7_typesNumber_26 rfl (lv_at hl 2 rfl) ?_
          refine lv_bipush (v := 10) hx hb dX7_typesNumber_27 (by decide) ?_
          refine lv_idiv hx hb dX7_typesNumber_29 (by decide) ?_
          refine lv_istore_n (lv' := [(2, .int (un / 10)), (0, .ref (B + 459)), (1, .int x)]) hx hb dX7_typesNumber_30 rfl hl (by decide) rfl (fun ls hl => ?_)
          refine lv_goto (tgt := 3) hx hb dX7_typesNumber_31 (by decide) ?_
          have hs : sX7_typesNumber r x = bX7_typesNumber_3 x n (sX7_types w3 (48 + ((x / un) - (x / un) / 10 * 10))) (un / 10) := hs.trans (by rw [bX7_typesNumber_3, if_neg c_5, if_neg c_10])
          exact ih (sX7_types w3 (48 + ((x / un) - (x / un) / 10 * 10))) (un / 10) (by have := dg_div (v := un) (fun q => c_5 (nle1 q)); omega) (Pq_types (hpt)) _ _ _ hJ (lv_sub hl [1, 2, 0] rfl) hs
  refine lv_ldc (own := RX7) hx hb X.2.2.2.1 (X.2.2.2.2.1 (.constant RX7 159 100000) (tw (i := 954) (by decide +kernel) (by decide))) dX7_typesNumber_0 ?_
  refine lv_istore_n (lv' := [(2, .int 100000), (0, .ref (B + 459)), (1, .int x)]) hx hb dX7_typesNumber_2 rfl hl (by decide) rfl (fun ls hl => ?_)
  have hs : sX7_typesNumber r x = bX7_typesNumber_3 x 7 r 100000 := by unfold sX7_typesNumber; rfl
  exact bk_3 7 r 100000 (by decide) (hpt) _ _ _ hJ (lv_sub hl [1, 2, 0] rfl) hs

theorem Pq_typesNumber {s : Nat} {r : Row} {x : Int32} (h : Pq s r) : Pq s (sX7_typesNumber r x) := by
  have key : ∀ (n : Nat) (r : Row) (un : Int32), Pq s r → Pq s (bX7_typesNumber_3 x n r un) := by
    intro n
    induction n with
    | zero => intro r un h; exact h
    | succ n ih =>
      intro r un h
      rw [bX7_typesNumber_3]
      exact Pq_iv (Pq_types h) (Pq_iv (ih _ _ h) (ih _ _ (Pq_types h)))
  unfold sX7_typesNumber
  exact key _ _ _ h
def bX7_write_70  (w : Row)(x : Int32) : Nat → Row → Nat → Nat → Int32 × Row
  | 0, w70, _, _ => (0, w70)
  | n + 1, w70, ct, p => if w (5) ≤ nI p then ((w70 1, w70)) else (if 0 < w (168 + 2 * (12 * ct + p)) then (bX7_write_70 w x n (sX7_typesNumber (sX7_types (sX7_typesNumber (sX7_types (sX7_typesNumber (sX7_types w70 59) (nI p)) 58) (w (168 + 2 * (12 * ct + p)))) 45) (w (168 + 2 * (12 * ct + p) + 1))) ct (p + 1)) else (if (w (20 + 7 * p + 2)) - 1 ≤ w (168 + 2 * (12 * ct + p) + 1) then (bX7_write_70 w x n w70 ct (p + 1)) else (bX7_write_70 w x n (sX7_typesNumber (sX7_types (sX7_typesNumber (sX7_types (sX7_typesNumber (sX7_types w70 59) (nI p)) 58) (w (168 + 2 * (12 * ct + p)))) 45) (w (168 + 2 * (12 * ct + p) + 1))) ct (p + 1))))
def sX7_write (r : Row) (w : Row) (x : Int32) : Int32 × Row := if sX7_isCart w x = 0 then (((-1), r)) else (bX7_write_70 w x 13 (sX7_typesNumber (sX7_types (sX7_typesNumber (sX7_types (sX7_typesNumber (sX7_types (upd r (1) 0) 99) (nI (nn x))) 64) (w (104 + 8 * (nn x)))) 42) (w (104 + 8 * (nn x) + 1))) (nn x) 0)
set_option maxHeartbeats 4000000 in
set_option maxRecDepth 100000 in
theorem mX7_write (l : Launch) (E : EE) (B : Nat) (g : GS) (x : Int32) (r : Row) (w : Row)  (hw0 : g.2.2.1 0 = w) (hpt : Pq 0 r) (hrn : Rn w) : CG l yX7_write cX7_write 4 (some .int) 2 46 E B [.ref (B + 459), .int x] (upR g r) (some (.int (sX7_write r w x).1)) (upR g ((sX7_write r w x).2)) := by
  refine mkI (own := RX7) (ty := .int) rfl (by decide) rfl (rfl) (Nat.le_of_ble_eq_true rfl) (fun P_ e_ s_ m_ a_ below meth cd Q X fin ls hl hJ => ?_)
  have hx := X.1
  have hb := X.2.1
  have hl : lv_has ls 4 [(0, .ref (B + 459)), (1, .int x)] := hl
  have bk_70 : ∀ (n : Nat) (w70 : Row)  (ct : Nat)  (p : Nat), 12 - p < n → (Pq 0 w70) → (ct < 8) → (p ≤ 12) → ∀ (H : Heap) (locs : List Loc) (ls : Array Slot), JG E B s_ (upR g w70) H locs → lv_has ls 4 [(0, .ref (B + 459)), (1, .int (nI ct)), (2, .int (nI p))] → sX7_write r w x = bX7_write_70 w x n w70 ct p → W P_ l e_ (rmm 2 46 0 0) s_ m_ a_ below meth cd H locs 0 0 Q (F0 m_ 70 ls []) := by
    intro n
    induction n with
    | zero => intro w70 ct p hm; exact absurd hm (Nat.not_lt_zero _)
    | succ n ih =>
      intro w70 ct p hm hpt hct hp H locs ls hJ hl hs
      refine lv_iload_n hx hb dX7_write_70 rfl (lv_at hl 2 rfl) ?_
      refine lv_aload_n hx hb dX7_write_71 rfl (lv_at hl 0 rfl) ?_
      refine gX7_7 X hJ (w := w70) rfl dX7_write_72 ?_
      refine lv_iconst (v := 5) hx hb dX7_write_75 (by decide) ?_
      refine ld_s X hJ (t := 0) (w := w) (by omega) hw0 (j := 5) (by decide) (by omega) dX7_write_76 ?_
      refine lv_icmp_ge (tgt := 172) hx hb dX7_write_77 (by decide) (fun c_77 => ?_) (fun c_77 => ?_)
      · skip
        refine lv_aload_n hx hb dX7_write_172 rfl (lv_at hl 0 rfl) ?_
        refine gX7_156 X hJ (w := w70) rfl dX7_write_173 ?_
        have hs : sX7_write r w x = (w70 1, w70) := hs.trans (by rw [bX7_write_70, if_pos c_77])
        exact fin (by rw [hs]; dsimp only; exact hJ) (by rw [hs]) dX7_write_176
      · skip
        have hp2 := hrn.1.lt5 (by omega) c_77
        refine lv_iconst (v := 0) hx hb dX7_write_80 (by decide) ?_
        refine lv_iload_n hx hb dX7_write_81 rfl (lv_at hl 1 rfl) ?_
        refine lv_iload_n hx hb dX7_write_82 rfl (lv_at hl 2 rfl) ?_
        refine kX7_36 X hJ (qX7_rangeAt l E B _ 0 ct p) rfl hl.1 ⟨Nat.le_of_ble_eq_true rfl, Nat.le_of_ble_eq_true rfl⟩ ⟨Nat.le_refl _, Nat.le_refl _⟩ (rest := []) rfl (Nat.le_of_ble_eq_true rfl) dX7_write_83 (fun H locs hJ => ?_)
        refine lv_istore_n (lv' := [(3, .int (nI (360 * 0 + (168 + 2 * (12 * ct + p))))), (0, .ref (B + 459)), (1, .int (nI ct)), (2, .int (nI p))]) hx hb dX7_write_86 rfl hl (by decide) rfl (fun ls hl => ?_)
        refine lv_aload_n hx hb dX7_write_87 rfl (lv_at hl 1 rfl) ?_
        refine gX7_7 X hJ (w := w70) rfl dX7_write_88 ?_
        refine lv_iload_n hx hb dX7_write_91 rfl (lv_at hl 0 rfl) ?_
        refine ld_s X hJ (t := 0) (w := w) (by omega) hw0 (j := 168 + 2 * (12 * ct + p)) (rfl) (by omega) dX7_write_92 ?_
        refine lv_if_gt (tgt := 121) hx hb dX7_write_93 (by decide) (fun c_93 => ?_) (fun c_93 => ?_)
        · skip
          refine lv_aload_n hx hb dX7_write_121 rfl (lv_at hl 1 rfl) ?_
          refine lv_bipush (v := 59) hx hb dX7_write_122 (by decide) ?_
          refine kX7_160 X hJ (mX7_types l E B _ 59 w70 (hpt)) rfl (by omega) (at_M rfl) hl.1 ⟨Nat.le_of_ble_eq_true rfl, Nat.le_of_ble_eq_true rfl⟩ ⟨Nat.le_refl _, Nat.le_refl _⟩ (rest := []) rfl (Nat.le_of_ble_eq_true rfl) dX7_write_124 (fun H locs hJ => ?_)
          refine lv_aload_n hx hb dX7_write_127 rfl (lv_at hl 1 rfl) ?_
          refine lv_iload_n hx hb dX7_write_128 rfl (lv_at hl 3 rfl) ?_
          refine kX7_164 X hJ (mX7_typesNumber l E B _ (nI p) (sX7_types w70 59) (Pq_types (hpt))) rfl (by omega) (at_M rfl) hl.1 ⟨Nat.le_of_ble_eq_true rfl, Nat.le_of_ble_eq_true rfl⟩ ⟨Nat.le_refl _, Nat.le_refl _⟩ (rest := []) rfl (Nat.le_of_ble_eq_true rfl) dX7_write_129 (fun H locs hJ => ?_)
          refine lv_aload_n hx hb dX7_write_132 rfl (lv_at hl 1 rfl) ?_
          refine lv_bipush (v := 58) hx hb dX7_write_133 (by decide) ?_
          refine kX7_160 X hJ (mX7_types l E B _ 58 (sX7_typesNumber (sX7_types w70 59) (nI p)) (Pq_typesNumber (Pq_types (hpt)))) rfl (by omega) (at_M rfl) hl.1 ⟨Nat.le_of_ble_eq_true rfl, Nat.le_of_ble_eq_true rfl⟩ ⟨Nat.le_refl _, Nat.le_refl _⟩ (rest := []) rfl (Nat.le_of_ble_eq_true rfl) dX7_write_135 (fun H locs hJ => ?_)
          refine lv_aload_n hx hb dX7_write_138 rfl (lv_at hl 1 rfl) ?_
          refine lv_aload_n hx hb dX7_write_139 rfl (lv_at hl 1 rfl) ?_
          refine gX7_7 X hJ (w := (sX7_types (sX7_typesNumber (sX7_types w70 59) (nI p)) 58)) rfl dX7_write_140 ?_
          refine lv_iload_n hx hb dX7_write_143 rfl (lv_at hl 0 rfl) ?_
          refine ld_s X hJ (t := 0) (w := w) (by omega) hw0 (j := 168 + 2 * (12 * ct + p)) (rfl) (by omega) dX7_write_144 ?_
          refine kX7_164 X hJ (mX7_typesNumber l E B _ (w (168 + 2 * (12 * ct + p))) (sX7_types (sX7_typesNumber (sX7_types w70 59) (nI p)) 58) (Pq_types (Pq_typesNumber (Pq_types (hpt))))) rfl (by omega) (at_M rfl) hl.1 ⟨Nat.le_of_ble_eq_true rfl, Nat.le_of_ble_eq_true rfl⟩ ⟨Nat.le_refl _, Nat.le_refl _⟩ (rest := []) rfl (Nat.le_of_ble_eq_true rfl) dX7_write_145 (fun H locs hJ => ?_)
          refine lv_aload_n hx hb dX7_write_148 rfl (lv_at hl 1 rfl) ?_
          refine lv_bipush (v := 45) hx hb dX7_write_149 (by decide) ?_
          refine kX7_160 X hJ (mX7_types l E B _ 45 (sX7_typesNumber (sX7_types (sX7_typesNumber (sX7_types w70 59) (nI p)) 58) (w (168 + 2 * (12 * ct + p)))) (Pq_typesNumber (Pq_types (Pq_typesNumber (Pq_types (hpt)))))) rfl (by omega) (at_M rfl) hl.1 ⟨Nat.le_of_ble_eq_true rfl, Nat.le_of_ble_eq_true rfl⟩ ⟨Nat.le_refl _, Nat.le_refl _⟩ (rest := []) rfl (Nat.le_of_ble_eq_true rfl) dX7_write_151 (fun H locs hJ => ?_)
          refine lv_aload_n hx hb dX7_write_154 rfl (lv_at hl 1 rfl) ?_
          refine lv_aload_n hx hb dX7_write_155 rfl (lv_at hl 1 rfl) ?_
          refine gX7_7 X hJ (w := (sX7_types (sX7_typesNumber (sX7_types (sX7_typesNumber (sX7_types w70 59) (nI p)) 58) (w (168 + 2 * (12 * ct + p)))) 45)) rfl dX7_write_156 ?_
          refine lv_iload_n hx hb dX7_write_159 rfl (lv_at hl 0 rfl) ?_
          refine lv_iconst (v := 1) hx hb dX7_write_160 (by decide) ?_
          refine xiadd (z := nI (360 * 0 + (168 + 2 * (12 * ct + p) + 1))) hx hb dX7_write_161 (nI_a3 0 (168 + 2 * (12 * ct + p)) 1) ?_
          refine ld_s X hJ (t := 0) (w := w) (by omega) hw0 (j := 168 + 2 * (12 * ct + p) + 1) (rfl) (by omega) dX7_write_162 ?_
          refine kX7_164 X hJ (mX7_typesNumber l E B _ (w (168 + 2 * (12 * ct + p) + 1)) (sX7_types (sX7_typesNumber (sX7_types (sX7_typesNumber (sX7_types w70 59) (nI p)) 58) (w (168 + 2 * (12 * ct + p)))) 45) (Pq_types (Pq_typesNumber (Pq_types (Pq_typesNumber (Pq_types (hpt))))))) rfl (by omega) (at_M rfl) hl.1 ⟨Nat.le_of_ble_eq_true rfl, Nat.le_of_ble_eq_true rfl⟩ ⟨Nat.le_refl _, Nat.le_refl _⟩ (rest := []) rfl (Nat.le_of_ble_eq_true rfl) dX7_write_163 (fun H locs hJ => ?_)
          refine lv_iinc (v := nI (p + 1)) (lv' := [(2, .int (nI (p + 1))), (3, .int (nI (360 * 0 + (168 + 2 * (12 * ct + p))))), (0, .ref (B + 459)), (1, .int (nI ct))]) hx hb dX7_write_166 hl (k := 3) rfl (by first | exact nI_add _ _ | rfl) (by decide) rfl (fun ls hl => ?_)
          refine lv_goto (tgt := 70) hx hb dX7_write_169 (by decide) ?_
          have hs : sX7_write r w x = bX7_write_70 w x n (sX7_typesNumber (sX7_types (sX7_typesNumber (sX7_types (sX7_typesNumber (sX7_types w70 59) (nI p)) 58) (w (168 + 2 * (12 * ct + p)))) 45) (w (168 + 2 * (12 * ct + p) + 1))) ct (p + 1) := hs.trans (by rw [bX7_write_70, if_neg c_77, if_pos c_93])
          exact ih (sX7_typesNumber (sX7_types (sX7_typesNumber (sX7_types (sX7_typesNumber (sX7_types w70 59) (nI p)) 58) (w (168 + 2 * (12 * ct + p)))) 45) (w (168 + 2 * (12 * ct + p) + 1))) ct (p + 1) (by omega) (Pq_typesNumber (Pq_types (Pq_typesNumber (Pq_types (Pq_typesNumber (Pq_types (hpt))))))) (hct) (by omega) _ _ _ hJ (lv_sub hl [2, 3, 0] rfl) hs
        · skip
          refine lv_aload_n hx hb dX7_write_96 rfl (lv_at hl 1 rfl) ?_
          refine gX7_7 X hJ (w := w70) rfl dX7_write_97 ?_
          refine lv_iload_n hx hb dX7_write_100 rfl (lv_at hl 0 rfl) ?_
          refine lv_iconst (v := 1) hx hb dX7_write_101 (by decide) ?_
          refine xiadd (z := nI (360 * 0 + (168 + 2 * (12 * ct + p) + 1))) hx hb dX7_write_102 (nI_a3 0 (168 + 2 * (12 * ct + p)) 1) ?_
          refine ld_s X hJ (t := 0) (w := w) (by omega) hw0 (j := 168 + 2 * (12 * ct + p) + 1) (rfl) (by omega) dX7_write_103 ?_
          refine lv_aload_n hx hb dX7_write_104 rfl (lv_at hl 1 rfl) ?_
          refine gX7_7 X hJ (w := w70) rfl dX7_write_105 ?_
          refine lv_iconst (v := 0) hx hb dX7_write_108 (by decide) ?_
          refine lv_iload_n hx hb dX7_write_109 rfl (lv_at hl 3 rfl) ?_
          refine kX7_31 X hJ (qX7_bridgeAt l E B _ 0 p) rfl hl.1 ⟨Nat.le_of_ble_eq_true rfl, Nat.le_of_ble_eq_true rfl⟩ ⟨Nat.le_refl _, Nat.le_refl _⟩ (rest := [.ref (B + 460), .int (w (168 + 2 * (12 * ct + p) + 1))]) rfl (Nat.le_of_ble_eq_true rfl) dX7_write_110 (fun H locs hJ => ?_)
          refine lv_iconst (v := 2) hx hb dX7_write_113 (by decide) ?_
          refine xiadd (z := nI (360 * 0 + (20 + 7 * p + 2))) hx hb dX7_write_114 (nI_a3 0 (20 + 7 * p) 2) ?_
          refine ld_s X hJ (t := 0) (w := w) (by omega) hw0 (j := 20 + 7 * p + 2) (rfl) (by omega) dX7_write_115 ?_
          refine lv_iconst (v := 1) hx hb dX7_write_116 (by decide) ?_
          refine lv_isub hx hb dX7_write_117 ?_
          refine lv_icmp_ge (tgt := 166) hx hb dX7_write_118 (by decide) (fun c_118 => ?_) (fun c_118 => ?_)
          · skip
            refine lv_iinc (v := nI (p + 1)) (lv' := [(2, .int (nI (p + 1))), (3, .int (nI (360 * 0 + (168 + 2 * (12 * ct + p))))), (0, .ref (B + 459)), (1, .int (nI ct))]) hx hb dX7_write_166 hl (k := 3) rfl (by first | exact nI_add _ _ | rfl) (by decide) rfl (fun ls hl => ?_)
            refine lv_goto (tgt := 70) hx hb dX7_write_169 (by decide) ?_
            have hs : sX7_write r w x = bX7_write_70 w x n w70 ct (p + 1) := hs.trans (by rw [bX7_write_70, if_neg c_77, if_neg c_93, if_pos c_118])
            exact ih w70 ct (p + 1) (by omega) (hpt) (hct) (by omega) _ _ _ hJ (lv_sub hl [2, 3, 0] rfl) hs
          · skip
            refine lv_aload_n hx hb dX7_write_121 rfl (lv_at hl 1 rfl) ?_
            refine lv_bipush (v := 59) hx hb dX7_write_122 (by decide) ?_
            refine kX7_160 X hJ (mX7_types l E B _ 59 w70 (hpt)) rfl (by omega) (at_M rfl) hl.1 ⟨Nat.le_of_ble_eq_true rfl, Nat.le_of_ble_eq_true rfl⟩ ⟨Nat.le_refl _, Nat.le_refl _⟩ (rest := []) rfl (Nat.le_of_ble_eq_true rfl) dX7_write_124 (fun H locs hJ => ?_)
            refine lv_aload_n hx hb dX7_write_127 rfl (lv_at hl 1 rfl) ?_
            refine lv_iload_n hx hb dX7_write_128 rfl (lv_at hl 3 rfl) ?_
            refine kX7_164 X hJ (mX7_typesNumber l E B _ (nI p) (sX7_types w70 59) (Pq_types (hpt))) rfl (by omega) (at_M rfl) hl.1 ⟨Nat.le_of_ble_eq_true rfl, Nat.le_of_ble_eq_true rfl⟩ ⟨Nat.le_refl _, Nat.le_refl _⟩ (rest := []) rfl (Nat.le_of_ble_eq_true rfl) dX7_write_129 (fun H locs hJ => ?_)
            refine lv_aload_n hx hb dX7_write_132 rfl (lv_at hl 1 rfl) ?_
            refine lv_bipush (v := 58) hx hb dX7_write_133 (by decide) ?_
            refine kX7_160 X hJ (mX7_types l E B _ 58 (sX7_typesNumber (sX7_types w70 59) (nI p)) (Pq_typesNumber (Pq_types (hpt)))) rfl (by omega) (at_M rfl) hl.1 ⟨Nat.le_of_ble_eq_true rfl, Nat.le_of_ble_eq_true rfl⟩ ⟨Nat.le_refl _, Nat.le_refl _⟩ (rest := []) rfl (Nat.le_of_ble_eq_true rfl) dX7_write_135 (fun H locs hJ => ?_)
            refine lv_aload_n hx hb dX7_write_138 rfl (lv_at hl 1 rfl) ?_
            refine lv_aload_n hx hb dX7_write_139 rfl (lv_at hl 1 rfl) ?_
            refine gX7_7 X hJ (w := (sX7_types (sX7_typesNumber (sX7_types w70 59) (nI p)) 58)) rfl dX7_write_140 ?_
            refine lv_iload_n hx hb dX7_write_143 rfl (lv_at hl 0 rfl) ?_
            refine ld_s X hJ (t := 0) (w := w) (by omega) hw0 (j := 168 + 2 * (12 * ct + p)) (rfl) (by omega) dX7_write_144 ?_
            refine kX7_164 X hJ (mX7_typesNumber l E B _ (w (168 + 2 * (12 * ct + p))) (sX7_types (sX7_typesNumber (sX7_types w70 59) (nI p)) 58) (Pq_types (Pq_typesNumber (Pq_types (hpt))))) rfl (by omega) (at_M rfl) hl.1 ⟨Nat.le_of_ble_eq_true rfl, Nat.le_of_ble_eq_true rfl⟩ ⟨Nat.le_refl _, Nat.le_refl _⟩ (rest := []) rfl (Nat.le_of_ble_eq_true rfl) dX7_write_145 (fun H locs hJ => ?_)
            refine lv_aload_n hx hb dX7_write_148 rfl (lv_at hl 1 rfl) ?_
            refine lv_bipush (v := 45) hx hb dX7_write_149 (by decide) ?_
            refine kX7_160 X hJ (mX7_types l E B _ 45 (sX7_typesNumber (sX7_types (sX7_typesNumber (sX7_types w70 59) (nI p)) 58) (w (168 + 2 * (12 * ct + p)))) (Pq_typesNumber (Pq_types (Pq_typesNumber (Pq_types (hpt)))))) rfl (by omega) (at_M rfl) hl.1 ⟨Nat.le_of_ble_eq_true rfl, Nat.le_of_ble_eq_true rfl⟩ ⟨Nat.le_refl _, Nat.le_refl _⟩ (rest := []) rfl (Nat.le_of_ble_eq_true rfl) dX7_write_151 (fun H locs hJ => ?_)
            refine lv_aload_n hx hb dX7_write_154 rfl (lv_at hl 1 rfl) ?_
            refine lv_aload_n hx hb dX7_write_155 rfl (lv_at hl 1 rfl) ?_
            refine gX7_7 X hJ (w := (sX7_types (sX7_typesNumber (sX7_types (sX7_typesNumber (sX7_types w70 59) (nI p)) 58) (w (168 + 2 * (12 * ct + p)))) 45)) rfl dX7_write_156 ?_
            refine lv_iload_n hx hb dX7_write_159 rfl (lv_at hl 0 rfl) ?_
            refine lv_iconst (v := 1) hx hb dX7_write_160 (by decide) ?_
            refine xiadd (z := nI (360 * 0 + (168 + 2 * (12 * ct + p) + 1))) hx hb dX7_write_161 (nI_a3 0 (168 + 2 * (12 * ct + p)) 1) ?_
            refine ld_s X hJ (t := 0) (w := w) (by omega) hw0 (j := 168 + 2 * (12 * ct + p) + 1) (rfl) (by omega) dX7_write_162 ?_
            refine kX7_164 X hJ (mX7_typesNumber l E B _ (w (168 + 2 * (12 * ct + p) + 1)) (sX7_types (sX7_typesNumber (sX7_types (sX7_typesNumber (sX7_types w70 59) (nI p)) 58) (w (168 + 2 * (12 * ct + p)))) 45) (Pq_types (Pq_typesNumber (Pq_types (Pq_typesNumber (Pq_types (hpt))))))) rfl (by omega) (at_M rfl) hl.1 ⟨Nat.le_of_ble_eq_true rfl, Nat.le_of_ble_eq_true rfl⟩ ⟨Nat.le_refl _, Nat.le_refl _⟩ (rest := []) rfl (Nat.le_of_ble_eq_true rfl) dX7_write_163 (fun H locs hJ => ?_)
            refine lv_iinc (v := nI (p + 1)) (lv' := [(2, .int (nI (p + 1))), (3, .int (nI (360 * 0 + (168 + 2 * (12 * ct + p))))), (0, .ref (B + 459)), (1, .int (nI ct))]) hx hb dX7_write_166 hl (k := 3) rfl (by first | exact nI_add _ _ | rfl) (by decide) rfl (fun ls hl => ?_)
            refine lv_goto (tgt := 70) hx hb dX7_write_169 (by decide) ?_
            have hs : sX7_write r w x = bX7_write_70 w x n (sX7_typesNumber (sX7_types (sX7_typesNumber (sX7_types (sX7_typesNumber (sX7_types w70 59) (nI p)) 58) (w (168 + 2 * (12 * ct + p)))) 45) (w (168 + 2 * (12 * ct + p) + 1))) ct (p + 1) := hs.trans (by rw [bX7_write_70, if_neg c_77, if_neg c_93, if_neg c_118])
            exact ih (sX7_typesNumber (sX7_types (sX7_typesNumber (sX7_types (sX7_typesNumber (sX7_types w70 59) (nI p)) 58) (w (168 + 2 * (12 * ct + p)))) 45) (w (168 + 2 * (12 * ct + p) + 1))) ct (p + 1) (by omega) (Pq_typesNumber (Pq_types (Pq_typesNumber (Pq_types (Pq_typesNumber (Pq_types (hpt))))))) (hct) (by omega) _ _ _ hJ (lv_sub hl [2, 3, 0] rfl) hs
  refine lv_aload_n hx hb dX7_write_0 rfl (lv_at hl 0 rfl) ?_
  refine lv_iload_n hx hb dX7_write_1 rfl (lv_at hl 1 rfl) ?_
  refine kX7_95 X hJ (mX7_isCart l E B _ x w hw0) rfl (by omega) (at_M rfl) hl.1 ⟨Nat.le_of_ble_eq_true rfl, Nat.le_of_ble_eq_true rfl⟩ ⟨Nat.le_refl _, Nat.le_refl _⟩ (rest := []) rfl (Nat.le_of_ble_eq_true rfl) dX7_write_2 (fun H locs hJ => ?_)
  refine lv_if_ne (tgt := 10) hx hb dX7_write_5 (by decide) (fun c_5 => ?_) (fun c_5 => ?_)
  · skip
    have hC := (isCart_of hrn.1 c_5).2.2
    have hl : lv_has ls 4 [(0, .ref (B + 459)), (1, .int (nI (nn x)))] := by rw [← show x = nI (nn x) from (isCart_of hrn.1 c_5).1]; exact hl
    refine lv_aload_n hx hb dX7_write_10 rfl (lv_at hl 0 rfl) ?_
    refine lv_iconst (v := 0) hx hb dX7_write_11 (by decide) ?_
    refine pX7_156 X hJ  dX7_write_12 (fun H locs hJ => ?_)
    refine lv_aload_n hx hb dX7_write_15 rfl (lv_at hl 0 rfl) ?_
    refine lv_bipush (v := 99) hx hb dX7_write_16 (by decide) ?_
    refine kX7_160 X hJ (mX7_types l E B _ 99 (upd r (1) 0) (Pq_1 ⟨by decide, by decide⟩ (hpt))) rfl (by omega) (at_M rfl) hl.1 ⟨Nat.le_of_ble_eq_true rfl, Nat.le_of_ble_eq_true rfl⟩ ⟨Nat.le_refl _, Nat.le_refl _⟩ (rest := []) rfl (Nat.le_of_ble_eq_true rfl) dX7_write_18 (fun H locs hJ => ?_)
    refine lv_aload_n hx hb dX7_write_21 rfl (lv_at hl 0 rfl) ?_
    refine lv_iload_n hx hb dX7_write_22 rfl (lv_at hl 1 rfl) ?_
    refine kX7_164 X hJ (mX7_typesNumber l E B _ (nI (nn x)) (sX7_types (upd r (1) 0) 99) (Pq_types (Pq_1 ⟨by decide, by decide⟩ (hpt)))) rfl (by omega) (at_M rfl) hl.1 ⟨Nat.le_of_ble_eq_true rfl, Nat.le_of_ble_eq_true rfl⟩ ⟨Nat.le_refl _, Nat.le_refl _⟩ (rest := []) rfl (Nat.le_of_ble_eq_true rfl) dX7_write_23 (fun H locs hJ => ?_)
    refine lv_aload_n hx hb dX7_write_26 rfl (lv_at hl 0 rfl) ?_
    refine lv_bipush (v := 64) hx hb dX7_write_27 (by decide) ?_
    refine kX7_160 X hJ (mX7_types l E B _ 64 (sX7_typesNumber (sX7_types (upd r (1) 0) 99) (nI (nn x))) (Pq_typesNumber (Pq_types (Pq_1 ⟨by decide, by decide⟩ (hpt))))) rfl (by omega) (at_M rfl) hl.1 ⟨Nat.le_of_ble_eq_true rfl, Nat.le_of_ble_eq_true rfl⟩ ⟨Nat.le_refl _, Nat.le_refl _⟩ (rest := []) rfl (Nat.le_of_ble_eq_true rfl) dX7_write_29 (fun H locs hJ => ?_)
    refine lv_aload_n hx hb dX7_write_32 rfl (lv_at hl 0 rfl) ?_
    refine lv_aload_n hx hb dX7_write_33 rfl (lv_at hl 0 rfl) ?_
    refine gX7_7 X hJ (w := (sX7_types (sX7_typesNumber (sX7_types (upd r (1) 0) 99) (nI (nn x))) 64)) rfl dX7_write_34 ?_
    refine lv_iconst (v := 0) hx hb dX7_write_37 (by decide) ?_
    refine lv_iload_n hx hb dX7_write_38 rfl (lv_at hl 1 rfl) ?_
    refine kX7_40 X hJ (qX7_cartAt l E B _ 0 (nn x)) rfl hl.1 ⟨Nat.le_of_ble_eq_true rfl, Nat.le_of_ble_eq_true rfl⟩ ⟨Nat.le_refl _, Nat.le_refl _⟩ (rest := [.ref (B + 460), .ref (B + 459)]) rfl (Nat.le_of_ble_eq_true rfl) dX7_write_39 (fun H locs hJ => ?_)
    refine ld_s X hJ (t := 0) (w := w) (by omega) hw0 (j := 104 + 8 * (nn x)) (rfl) (by omega) dX7_write_42 ?_
    refine kX7_164 X hJ (mX7_typesNumber l E B _ (w (104 + 8 * (nn x))) (sX7_types (sX7_typesNumber (sX7_types (upd r (1) 0) 99) (nI (nn x))) 64) (Pq_types (Pq_typesNumber (Pq_types (Pq_1 ⟨by decide, by decide⟩ (hpt)))))) rfl (by omega) (at_M rfl) hl.1 ⟨Nat.le_of_ble_eq_true rfl, Nat.le_of_ble_eq_true rfl⟩ ⟨Nat.le_refl _, Nat.le_refl _⟩ (rest := []) rfl (Nat.le_of_ble_eq_true rfl) dX7_write_43 (fun H locs hJ => ?_)
    refine lv_aload_n hx hb dX7_write_46 rfl (lv_at hl 0 rfl) ?_
    refine lv_bipush (v := 42) hx hb dX7_write_47 (by decide) ?_
    refine kX7_160 X hJ (mX7_types l E B _ 42 (sX7_typesNumber (sX7_types (sX7_typesNumber (sX7_types (upd r (1) 0) 99) (nI (nn x))) 64) (w (104 + 8 * (nn x)))) (Pq_typesNumber (Pq_types (Pq_typesNumber (Pq_types (Pq_1 ⟨by decide, by decide⟩ (hpt))))))) rfl (by omega) (at_M rfl) hl.1 ⟨Nat.le_of_ble_eq_true rfl, Nat.le_of_ble_eq_true rfl⟩ ⟨Nat.le_refl _, Nat.le_refl _⟩ (rest := []) rfl (Nat.le_of_ble_eq_true rfl) dX7_write_49 (fun H locs hJ => ?_)
    refine lv_aload_n hx hb dX7_write_52 rfl (lv_at hl 0 rfl) ?_
    refine lv_aload_n hx hb dX7_write_53 rfl (lv_at hl 0 rfl) ?_
    refine gX7_7 X hJ (w := (sX7_types (sX7_typesNumber (sX7_types (sX7_typesNumber (sX7_types (upd r (1) 0) 99) (nI (nn x))) 64) (w (104 + 8 * (nn x)))) 42)) rfl dX7_write_54 ?_
    refine lv_iconst (v := 0) hx hb dX7_write_57 (by decide) ?_
    refine lv_iload_n hx hb dX7_write_58 rfl (lv_at hl 1 rfl) ?_
    refine kX7_40 X hJ (qX7_cartAt l E B _ 0 (nn x)) rfl hl.1 ⟨Nat.le_of_ble_eq_true rfl, Nat.le_of_ble_eq_true rfl⟩ ⟨Nat.le_refl _, Nat.le_refl _⟩ (rest := [.ref (B + 460), .ref (B + 459)]) rfl (Nat.le_of_ble_eq_true rfl) dX7_write_59 (fun H locs hJ => ?_)
    refine lv_iconst (v := 1) hx hb dX7_write_62 (by decide) ?_
    refine xiadd (z := nI (360 * 0 + (104 + 8 * (nn x) + 1))) hx hb dX7_write_63 (nI_a3 0 (104 + 8 * (nn x)) 1) ?_
    refine ld_s X hJ (t := 0) (w := w) (by omega) hw0 (j := 104 + 8 * (nn x) + 1) (rfl) (by omega) dX7_write_64 ?_
    refine kX7_164 X hJ (mX7_typesNumber l E B _ (w (104 + 8 * (nn x) + 1)) (sX7_types (sX7_typesNumber (sX7_types (sX7_typesNumber (sX7_types (upd r (1) 0) 99) (nI (nn x))) 64) (w (104 + 8 * (nn x)))) 42) (Pq_types (Pq_typesNumber (Pq_types (Pq_typesNumber (Pq_types (Pq_1 ⟨by decide, by decide⟩ (hpt)))))))) rfl (by omega) (at_M rfl) hl.1 ⟨Nat.le_of_ble_eq_true rfl, Nat.le_of_ble_eq_true rfl⟩ ⟨Nat.le_refl _, Nat.le_refl _⟩ (rest := []) rfl (Nat.le_of_ble_eq_true rfl) dX7_write_65 (fun H locs hJ => ?_)
    refine lv_iconst (v := 0) hx hb dX7_write_68 (by decide) ?_
    refine lv_istore_n (lv' := [(2, .int 0), (0, .ref (B + 459)), (1, .int (nI (nn x)))]) hx hb dX7_write_69 rfl hl (by decide) rfl (fun ls hl => ?_)
    have hs : sX7_write r w x = bX7_write_70 w x 13 (sX7_typesNumber (sX7_types (sX7_typesNumber (sX7_types (sX7_typesNumber (sX7_types (upd r (1) 0) 99) (nI (nn x))) 64) (w (104 + 8 * (nn x)))) 42) (w (104 + 8 * (nn x) + 1))) (nn x) 0 := by unfold sX7_write; rw [if_neg c_5]
    exact bk_70 13 (sX7_typesNumber (sX7_types (sX7_typesNumber (sX7_types (sX7_typesNumber (sX7_types (upd r (1) 0) 99) (nI (nn x))) 64) (w (104 + 8 * (nn x)))) 42) (w (104 + 8 * (nn x) + 1))) (nn x) 0 (by omega) (Pq_typesNumber (Pq_types (Pq_typesNumber (Pq_types (Pq_typesNumber (Pq_types (Pq_1 ⟨by decide, by decide⟩ (hpt)))))))) (by omega) (by omega) _ _ _ hJ (lv_sub hl [1, 2, 0] rfl) hs
  · skip
    refine lv_iconst (v := (-1)) hx hb dX7_write_8 (by decide) ?_
    have hs : sX7_write r w x = ((-1), r) := by unfold sX7_write; rw [if_pos c_5]
    exact fin (by rw [hs]; dsimp only; exact hJ) (by rw [hs]) dX7_write_9

