def bX6_signsIn_5 (z : Int64) : Nat → Int64 → Nat → Int32
  | 0, _, _ => 0
  | n + 1, rs, p => if 8 ≤ nI p then (nI p) else (if lg_cmp rs 0 = 0 then (nI p) else (if rs.toInt32 &&& 255 < 33 then (0) else (if rs.toInt32 &&& 255 ≤ 126 then (bX6_signsIn_5 z n (lushr rs 8) (p + 1)) else (0))))
def sX6_signsIn (z : Int64) : Int32 := bX6_signsIn_5 z 9 z 0
set_option maxHeartbeats 4000000 in
set_option maxRecDepth 100000 in
theorem mX6_signsIn (l : Launch) (E : EE) (B : Nat) (g : GS) (z : Int64) : CG l yX6_signsIn cX6_signsIn 6 (some .int) 0 0 E B [.long z] g (some (.int (sX6_signsIn z))) g := by
  refine mkI (own := RX6) (ty := .int) rfl (by decide) rfl (rfl) (Nat.le_of_ble_eq_true rfl) (fun P_ e_ s_ m_ a_ below meth cd Q X fin ls hl hJ => ?_)
  have hx := X.1
  have hb := X.2.1
  have hl : lv_has ls 6 [(0, .long z)] := hl
  have bk_5 : ∀ (n : Nat) (rs : Int64)  (p : Nat), 8 - p < n → (p ≤ 8) → ∀ (H : Heap) (locs : List Loc) (ls : Array Slot), JG E B s_ (g) H locs → lv_has ls 6 [(0, .long z), (2, .long rs), (4, .int (nI p))] → sX6_signsIn z = bX6_signsIn_5 z n rs p → W P_ l e_ (rmm 0 0 0 0) s_ m_ a_ below meth cd H locs 0 0 Q (F0 m_ 5 ls []) := by
    intro n
    induction n with
    | zero => intro rs p hm; exact absurd hm (Nat.not_lt_zero _)
    | succ n ih =>
      intro rs p hm hp H locs ls hJ hl hs
      refine lv_iload hx hb dX6_signsIn_5 (lv_at hl 2 rfl) ?_
      refine lv_bipush (v := 8) hx hb dX6_signsIn_7 (by decide) ?_
      refine lv_icmp_ge (tgt := 53) hx hb dX6_signsIn_9 (by decide) (fun c_9 => ?_) (fun c_9 => ?_)
      · skip
        refine lv_iload hx hb dX6_signsIn_53 (lv_at hl 2 rfl) ?_
        have hs : sX6_signsIn z = nI p := hs.trans (by rw [bX6_signsIn_5, if_pos c_9])
        exact fin hJ (by rw [hs]) dX6_signsIn_55
      · skip
        have hp2 := lit_lt (n := 8) c_9 (by omega) (by omega)
        refine lv_lload_n hx hb dX6_signsIn_12 rfl (lv_at hl 1 rfl) ?_
        refine lv_lconst (v := 0) hx hb dX6_signsIn_13 (by decide) ?_
        refine W.lcmp hx hb dX6_signsIn_14 ?_
        refine lv_if_eq (tgt := 53) hx hb dX6_signsIn_15 (by decide) (fun c_15 => ?_) (fun c_15 => ?_)
        · skip
          refine lv_iload hx hb dX6_signsIn_53 (lv_at hl 2 rfl) ?_
          have hs : sX6_signsIn z = nI p := hs.trans (by rw [bX6_signsIn_5, if_neg c_9, if_pos c_15])
          exact fin hJ (by rw [hs]) dX6_signsIn_55
        · skip
          refine lv_lload_n hx hb dX6_signsIn_18 rfl (lv_at hl 1 rfl) ?_
          refine lv_l2i hx hb dX6_signsIn_19 rfl ?_
          refine lv_sipush (v := 255) hx hb dX6_signsIn_20 (by decide) ?_
          refine lv_iand hx hb dX6_signsIn_23 ?_
          refine lv_istore (lv' := [(5, .int (rs.toInt32 &&& 255)), (0, .long z), (2, .long rs), (4, .int (nI p))]) hx hb dX6_signsIn_24 hl (by decide) rfl (fun ls hl => ?_)
          refine lv_iload hx hb dX6_signsIn_26 (lv_at hl 0 rfl) ?_
          refine lv_bipush (v := 33) hx hb dX6_signsIn_28 (by decide) ?_
          refine lv_icmp_lt (tgt := 40) hx hb dX6_signsIn_30 (by decide) (fun c_30 => ?_) (fun c_30 => ?_)
          · skip
            refine lv_iconst (v := 0) hx hb dX6_signsIn_40 (by decide) ?_
            have hs : sX6_signsIn z = 0 := hs.trans (by rw [bX6_signsIn_5, if_neg c_9, if_neg c_15, if_pos c_30])
            exact fin hJ (by rw [hs]) dX6_signsIn_41
          · skip
            refine lv_iload hx hb dX6_signsIn_33 (lv_at hl 0 rfl) ?_
            refine lv_bipush (v := 126) hx hb dX6_signsIn_35 (by decide) ?_
            refine lv_icmp_le (tgt := 42) hx hb dX6_signsIn_37 (by decide) (fun c_37 => ?_) (fun c_37 => ?_)
            · skip
              refine lv_iinc (v := nI (p + 1)) (lv' := [(4, .int (nI (p + 1))), (5, .int (rs.toInt32 &&& 255)), (0, .long z), (2, .long rs)]) hx hb dX6_signsIn_42 hl (k := 3) rfl (by first | exact nI_add _ _ | rfl) (by decide) rfl (fun ls hl => ?_)
              refine lv_lload_n hx hb dX6_signsIn_45 rfl (lv_at hl 3 rfl) ?_
              refine lv_bipush (v := 8) hx hb dX6_signsIn_46 (by decide) ?_
              refine lv_lushr hx hb dX6_signsIn_48 rfl ?_
              refine lv_lstore_n (lv' := [(2, .long (lushr rs 8)), (4, .int (nI (p + 1))), (5, .int (rs.toInt32 &&& 255)), (0, .long z)]) hx hb dX6_signsIn_49 rfl hl (by decide) rfl (fun ls hl => ?_)
              refine lv_goto (tgt := 5) hx hb dX6_signsIn_50 (by decide) ?_
              have hs : sX6_signsIn z = bX6_signsIn_5 z n (lushr rs 8) (p + 1) := hs.trans (by rw [bX6_signsIn_5, if_neg c_9, if_neg c_15, if_neg c_30, if_pos c_37])
              exact ih (lushr rs 8) (p + 1) (by omega) (by omega) _ _ _ hJ (lv_sub hl [3, 0, 1] rfl) hs
            · skip
              refine lv_iconst (v := 0) hx hb dX6_signsIn_40 (by decide) ?_
              have hs : sX6_signsIn z = 0 := hs.trans (by rw [bX6_signsIn_5, if_neg c_9, if_neg c_15, if_neg c_30, if_neg c_37])
              exact fin hJ (by rw [hs]) dX6_signsIn_41
  refine lv_lload_n hx hb dX6_signsIn_0 rfl (lv_at hl 0 rfl) ?_
  refine lv_lstore_n (lv' := [(2, .long z), (0, .long z)]) hx hb dX6_signsIn_1 rfl hl (by decide) rfl (fun ls hl => ?_)
  refine lv_iconst (v := 0) hx hb dX6_signsIn_2 (by decide) ?_
  refine lv_istore (lv' := [(4, .int 0), (2, .long z), (0, .long z)]) hx hb dX6_signsIn_3 hl (by decide) rfl (fun ls hl => ?_)
  have hs : sX6_signsIn z = bX6_signsIn_5 z 9 z 0 := by unfold sX6_signsIn; rfl
  exact bk_5 9 z 0 (by omega) (by omega) _ _ _ hJ (lv_sub hl [2, 1, 0] rfl) hs

theorem signsIn_sm {z : Int64} : sm (sX6_signsIn z) 8 := by
  have key : ∀ (n : Nat) (rs : Int64) (p : Nat), p ≤ 8 → sm (bX6_signsIn_5 z n rs p) 8 := by
    intro n
    induction n with
    | zero => intro rs p _; exact (show sm (0 : Int32) 8 from ⟨by decide, by decide⟩)
    | succ n ih =>
      intro rs p hp
      rw [bX6_signsIn_5]
      by_cases h1 : 8 ≤ nI p
      · rw [if_pos h1]; exact sm_nI hp (by omega)
      rw [if_neg h1]
      have hp2 := lit_lt (n := 8) h1 (by omega) (by omega)
      by_cases h2 : lg_cmp rs 0 = 0
      · rw [if_pos h2]; exact sm_nI hp (by omega)
      rw [if_neg h2]
      by_cases h3 : rs.toInt32 &&& 255 < 33
      · rw [if_pos h3]; exact ⟨by decide, by decide⟩
      rw [if_neg h3]
      by_cases h4 : rs.toInt32 &&& 255 ≤ 126
      · rw [if_pos h4]; exact ih _ _ (by omega)
      · rw [if_neg h4]; exact ⟨by decide, by decide⟩
  unfold sX6_signsIn
  exact key _ _ _ (by omega)
theorem dec_toInt {x : Int32} (h : ¬ x < 0) : (x + (-1)).toInt = x.toInt - 1 := by
  rw [Int32.lt_iff_toInt_lt, show (0 : Int32).toInt = 0 from by decide] at h
  have hx : x = nI (nn x) := nI_nn (by omega)
  have hb := x.toInt_lt
  have hn := nn_toInt (v := x) (by omega)
  rw [Int32.toInt_add, show (-1 : Int32).toInt = -1 from by decide]
  show (x.toInt + -1).bmod (2 ^ 32) = _
  rw [Int.bmod_eq_of_le (by omega) (by omega)]
  omega
theorem pred_toInt {x : Int32} (h : sm x 8) : (x - 1).toInt = x.toInt - 1 := by
  have := h.1; have := h.2
  rw [Int32.toInt_sub, show (1 : Int32).toInt = 1 from by decide]
  rw [Int.bmod_eq_of_le (by omega) (by omega)]
def bX6_put_34 (z : Int64) : Nat → Row → Int32 → Int32 × Row
  | 0, w34, _ => (0, w34)
  | n + 1, w34, lf => if lf < 0 then ((w34 3, w34)) else (bX6_put_34 z n (sX4_append w34 (((lushr z (8 * lf)).toInt32) &&& 255)) (lf + (-1)))
def sX6_put (u : Row) (z : Int64) : Int32 × Row := if sX6_signsIn z = 0 then (((-2), u)) else (if (u 3) + (sX6_signsIn z) ≤ 80 then (bX6_put_34 z 9 u ((sX6_signsIn z) - 1)) else (((-4), u)))
set_option maxHeartbeats 4000000 in
set_option maxRecDepth 100000 in
theorem mX6_put (l : Launch) (E : EE) (B : Nat) (g : GS) (z : Int64) (u : Row) (hpd : Pd u) : CG l yX6_put cX6_put 5 (some .int) 1 25 E B [.ref (B + 0), .long z] (upC g u) (some (.int (sX6_put u z).1)) (upC g ((sX6_put u z).2)) := by
  refine mkI (own := RX6) (ty := .int) rfl (by decide) rfl (rfl) (Nat.le_of_ble_eq_true rfl) (fun P_ e_ s_ m_ a_ below meth cd Q X fin ls hl hJ => ?_)
  have hx := X.1
  have hb := X.2.1
  have hl : lv_has ls 5 [(0, .ref (B + 0)), (1, .long z)] := hl
  have bk_34 : ∀ (n : Nat) (w34 : Row)  (lf : Int32), (lf.toInt + 1).toNat < n → (Pd w34) → (lf.toInt ≤ 7 ∧ -1 ≤ lf.toInt) → ∀ (H : Heap) (locs : List Loc) (ls : Array Slot), JG E B s_ (upC g w34) H locs → lv_has ls 5 [(0, .ref (B + 0)), (1, .long z), (3, .int (sX6_signsIn z)), (4, .int lf)] → sX6_put u z = bX6_put_34 z n w34 lf → W P_ l e_ (rmm 1 25 0 0) s_ m_ a_ below meth cd H locs 0 0 Q (F0 m_ 34 ls []) := by
    intro n
    induction n with
    | zero => intro w34 lf hm; exact absurd hm (Nat.not_lt_zero _)
    | succ n ih =>
      intro w34 lf hm hpd hlf H locs ls hJ hl hs
      refine lv_iload hx hb dX6_put_34 (lv_at hl 3 rfl) ?_
      refine lv_if_lt (tgt := 64) hx hb dX6_put_36 (by decide) (fun c_36 => ?_) (fun c_36 => ?_)
      · skip
        refine lv_aload_n hx hb dX6_put_64 rfl (lv_at hl 0 rfl) ?_
        refine gX6_37 X hJ  dX6_put_65 ?_
        refine gX6_92 X hJ (w := w34) rfl dX6_put_68 ?_
        have hs : sX6_put u z = (w34 3, w34) := hs.trans (by rw [bX6_put_34, if_pos c_36])
        exact fin (by rw [hs]; dsimp only; exact hJ) (by rw [hs]) dX6_put_71
      · skip
        refine lv_aload_n hx hb dX6_put_39 rfl (lv_at hl 0 rfl) ?_
        refine gX6_37 X hJ  dX6_put_40 ?_
        refine lv_lload_n hx hb dX6_put_43 rfl (lv_at hl 1 rfl) ?_
        refine lv_bipush (v := 8) hx hb dX6_put_44 (by decide) ?_
        refine lv_iload hx hb dX6_put_46 (lv_at hl 3 rfl) ?_
        refine lv_imul hx hb dX6_put_48 ?_
        refine lv_lushr hx hb dX6_put_49 rfl ?_
        refine lv_l2i hx hb dX6_put_50 rfl ?_
        refine lv_sipush (v := 255) hx hb dX6_put_51 (by decide) ?_
        refine lv_iand hx hb dX6_put_54 ?_
        refine kX6_181 X hJ (mX4_append l E B _ (((lushr z (8 * lf)).toInt32) &&& 255) w34 (hpd)) rfl (by omega) (at_P rfl) hl.1 ⟨Nat.le_of_ble_eq_true rfl, Nat.le_of_ble_eq_true rfl⟩ ⟨Nat.le_refl _, Nat.le_refl _⟩ (rest := []) rfl (Nat.le_of_ble_eq_true rfl) dX6_put_55 (fun H locs hJ => ?_)
        refine lv_iinc (v := lf + (-1)) (lv' := [(4, .int (lf + (-1))), (0, .ref (B + 0)), (1, .long z), (3, .int (sX6_signsIn z))]) hx hb dX6_put_58 hl (k := 3) rfl (by first | exact rfl | rfl) (by decide) rfl (fun ls hl => ?_)
        refine lv_goto (tgt := 34) hx hb dX6_put_61 (by decide) ?_
        have hs : sX6_put u z = bX6_put_34 z n (sX4_append w34 (((lushr z (8 * lf)).toInt32) &&& 255)) (lf + (-1)) := hs.trans (by rw [bX6_put_34, if_neg c_36])
        exact ih (sX4_append w34 (((lushr z (8 * lf)).toInt32) &&& 255)) (lf + (-1)) (by have := dec_toInt c_36; rw [Int32.lt_iff_toInt_lt, show (0 : Int32).toInt = 0 from by decide] at c_36; omega) (Pd_append (hpd)) (by have := dec_toInt c_36; rw [Int32.lt_iff_toInt_lt, show (0 : Int32).toInt = 0 from by decide] at c_36; omega) _ _ _ hJ (lv_sub hl [1, 2, 3, 0] rfl) hs
  refine lv_lload_n hx hb dX6_put_0 rfl (lv_at hl 1 rfl) ?_
  refine kX6_177 X hJ (mX6_signsIn l E B _ z) rfl hl.1 ⟨Nat.le_of_ble_eq_true rfl, Nat.le_of_ble_eq_true rfl⟩ ⟨Nat.le_refl _, Nat.le_refl _⟩ (rest := []) rfl (Nat.le_of_ble_eq_true rfl) dX6_put_1 (fun H locs hJ => ?_)
  refine lv_istore_n (lv' := [(3, .int (sX6_signsIn z)), (0, .ref (B + 0)), (1, .long z)]) hx hb dX6_put_4 rfl hl (by decide) rfl (fun ls hl => ?_)
  refine lv_iload_n hx hb dX6_put_5 rfl (lv_at hl 0 rfl) ?_
  refine lv_if_ne (tgt := 12) hx hb dX6_put_6 (by decide) (fun c_6 => ?_) (fun c_6 => ?_)
  · skip
    refine lv_aload_n hx hb dX6_put_12 rfl (lv_at hl 1 rfl) ?_
    refine gX6_37 X hJ  dX6_put_13 ?_
    refine gX6_92 X hJ (w := u) rfl dX6_put_16 ?_
    refine lv_iload_n hx hb dX6_put_19 rfl (lv_at hl 0 rfl) ?_
    refine lv_iadd hx hb dX6_put_20 ?_
    refine lv_bipush (v := 80) hx hb dX6_put_21 (by decide) ?_
    refine lv_icmp_le (tgt := 29) hx hb dX6_put_23 (by decide) (fun c_23 => ?_) (fun c_23 => ?_)
    · skip
      refine lv_iload_n hx hb dX6_put_29 rfl (lv_at hl 0 rfl) ?_
      refine lv_iconst (v := 1) hx hb dX6_put_30 (by decide) ?_
      refine lv_isub hx hb dX6_put_31 ?_
      refine lv_istore (lv' := [(4, .int ((sX6_signsIn z) - 1)), (3, .int (sX6_signsIn z)), (0, .ref (B + 0)), (1, .long z)]) hx hb dX6_put_32 hl (by decide) rfl (fun ls hl => ?_)
      have hs : sX6_put u z = bX6_put_34 z 9 u ((sX6_signsIn z) - 1) := by unfold sX6_put; rw [if_neg c_6, if_pos c_23]
      exact bk_34 9 u ((sX6_signsIn z) - 1) (by have := signsIn_sm (z := z); have := pred_toInt this; have := signsIn_sm (z := z).1; have := signsIn_sm (z := z).2; omega) (hpd) (by have := signsIn_sm (z := z); have := pred_toInt this; have := signsIn_sm (z := z).1; have := signsIn_sm (z := z).2; omega) _ _ _ hJ (lv_sub hl [2, 3, 1, 0] rfl) hs
    · skip
      refine lv_bipush (v := (-4)) hx hb dX6_put_26 (by decide) ?_
      have hs : sX6_put u z = ((-4), u) := by unfold sX6_put; rw [if_neg c_6, if_neg c_23]
      exact fin (by rw [hs]; dsimp only; exact hJ) (by rw [hs]) dX6_put_28
  · skip
    refine lv_bipush (v := (-2)) hx hb dX6_put_9 (by decide) ?_
    have hs : sX6_put u z = ((-2), u) := by unfold sX6_put; rw [if_pos c_6]
    exact fin (by rw [hs]; dsimp only; exact hJ) (by rw [hs]) dX6_put_11

def sX6_wipe (u : Row) : Int32 × Row := (u 3, (sX4_clear u))
set_option maxHeartbeats 4000000 in
set_option maxRecDepth 100000 in
theorem mX6_wipe (l : Launch) (E : EE) (B : Nat) (g : GS)  (u : Row) : CG l yX6_wipe cX6_wipe 2 (some .int) 1 20 E B [.ref (B + 0)] (upC g u) (some (.int (sX6_wipe u).1)) (upC g ((sX6_wipe u).2)) := by
  refine mkI (own := RX6) (ty := .int) rfl (by decide) rfl (rfl) (Nat.le_of_ble_eq_true rfl) (fun P_ e_ s_ m_ a_ below meth cd Q X fin ls hl hJ => ?_)
  have hx := X.1
  have hb := X.2.1
  have hl : lv_has ls 2 [(0, .ref (B + 0))] := hl
  refine lv_aload_n hx hb dX6_wipe_0 rfl (lv_at hl 0 rfl) ?_
  refine gX6_37 X hJ  dX6_wipe_1 ?_
  refine gX6_92 X hJ (w := u) rfl dX6_wipe_4 ?_
  refine lv_istore_n (lv' := [(1, .int (u 3)), (0, .ref (B + 0))]) hx hb dX6_wipe_7 rfl hl (by decide) rfl (fun ls hl => ?_)
  refine lv_aload_n hx hb dX6_wipe_8 rfl (lv_at hl 1 rfl) ?_
  refine gX6_37 X hJ  dX6_wipe_9 ?_
  refine kX6_85 X hJ (mX4_clear l E B _ u) rfl (by omega) (at_P rfl) hl.1 ⟨Nat.le_of_ble_eq_true rfl, Nat.le_of_ble_eq_true rfl⟩ ⟨Nat.le_refl _, Nat.le_refl _⟩ (rest := []) rfl (Nat.le_of_ble_eq_true rfl) dX6_wipe_12 (fun H locs hJ => ?_)
  refine lv_iload_n hx hb dX6_wipe_15 rfl (lv_at hl 0 rfl) ?_
  have hs : sX6_wipe u = (u 3, (sX4_clear u)) := by unfold sX6_wipe; rfl
  exact fin (by rw [hs]; dsimp only; exact hJ) (by rw [hs]) dX6_wipe_16

def sX6_sign (u : Row) (x : Int32) : Int32 := sX4_codeAt u x
set_option maxHeartbeats 4000000 in
set_option maxRecDepth 100000 in
theorem mX6_sign (l : Launch) (E : EE) (B : Nat) (g : GS) (x : Int32) (u : Row) (hw : g.2.1 = u) (hpd : Pd u) : CG l yX6_sign cX6_sign 2 (some .int) 1 21 E B [.ref (B + 0), .int x] g (some (.int (sX6_sign u x))) g := by
  refine mkI (own := RX6) (ty := .int) rfl (by decide) rfl (rfl) (Nat.le_of_ble_eq_true rfl) (fun P_ e_ s_ m_ a_ below meth cd Q X fin ls hl hJ => ?_)
  have hx := X.1
  have hb := X.2.1
  have hl : lv_has ls 2 [(0, .ref (B + 0)), (1, .int x)] := hl
  refine lv_aload_n hx hb dX6_sign_0 rfl (lv_at hl 0 rfl) ?_
  refine gX6_37 X hJ  dX6_sign_1 ?_
  refine lv_iload_n hx hb dX6_sign_4 rfl (lv_at hl 1 rfl) ?_
  refine kX6_130 X hJ (mX4_codeAt l E B _ x u hw (hpd)) rfl (by omega) (at_P rfl) hl.1 ⟨Nat.le_of_ble_eq_true rfl, Nat.le_of_ble_eq_true rfl⟩ ⟨Nat.le_refl _, Nat.le_refl _⟩ (rest := []) rfl (Nat.le_of_ble_eq_true rfl) dX6_sign_5 (fun H locs hJ => ?_)
  have hs : sX6_sign u x = sX4_codeAt u x := by unfold sX6_sign; rfl
  exact fin hJ (by rw [hs]) dX6_sign_8

def sX6_fault (u : Row) : Int32 × Row := ((sX3_faultPlace u).1, (sX3_faultPlace u).2)
set_option maxHeartbeats 4000000 in
set_option maxRecDepth 100000 in
theorem mX6_fault (l : Launch) (E : EE) (B : Nat) (g : GS)  (u : Row) (hpd : Pd u) : CG l yX6_fault cX6_fault 1 (some .int) 6 126 E B [.ref (B + 0)] (upC g u) (some (.int (sX6_fault u).1)) (upC g ((sX6_fault u).2)) := by
  refine mkI (own := RX6) (ty := .int) rfl (by decide) rfl (rfl) (Nat.le_of_ble_eq_true rfl) (fun P_ e_ s_ m_ a_ below meth cd Q X fin ls hl hJ => ?_)
  have hx := X.1
  have hb := X.2.1
  have hl : lv_has ls 1 [(0, .ref (B + 0))] := hl
  refine lv_aload_n hx hb dX6_fault_0 rfl (lv_at hl 0 rfl) ?_
  refine gX6_46 X hJ  dX6_fault_1 ?_
  refine kX6_185 X hJ (mX3_faultPlace l E B _ u (hpd)) rfl (by omega) (at_O rfl) hl.1 ⟨Nat.le_of_ble_eq_true rfl, Nat.le_of_ble_eq_true rfl⟩ ⟨Nat.le_refl _, Nat.le_refl _⟩ (rest := []) rfl (Nat.le_of_ble_eq_true rfl) dX6_fault_4 (fun H locs hJ => ?_)
  have hs : sX6_fault u = ((sX3_faultPlace u).1, (sX3_faultPlace u).2) := by unfold sX6_fault; rfl
  exact fin (by rw [hs]; dsimp only; exact hJ) (by rw [hs]) dX6_fault_7

