theorem in99_of {x : Int32} (h : ¬ sX7_in x.toInt64 1 99 = 0) : sm x 99 := by
  have a := (in_32 (x := x) (y := 1) (z := 99)).mp h
  have e9 : (99 : Int64).toInt = 99 := by decide
  have e0 : (1 : Int64).toInt = 1 := by decide
  rw [e0, e9] at a
  exact ⟨by omega, by omega⟩
theorem isSlot_of {x : Int32} (h : ¬ sX7_isSlot x = 0) : x = nI (nn x) ∧ nn x < 2 := by
  unfold sX7_isSlot at h
  by_cases h0 : x = 0
  · subst h0; exact ⟨by decide, by decide⟩
  rw [if_neg h0] at h
  by_cases h1 : x = 1
  · subst h1; exact ⟨by decide, by decide⟩
  rw [if_neg h1] at h
  exact absurd rfl h
def bX7_overIn_79 (x : Int32) (g79 : GS) (q : Nat) (p : Nat) : Int32 × GS := if (g79.2.2.1 9) (104 + 8 * q + 2) = (-6) then ((nI p, g79)) else (((-6), g79))
def bX7_overIn_43 (x : Int32) : Nat → GS → Nat → Nat → Int32 × GS
  | 0, g43, _, _ => (0, g43)
  | n + 1, g43, q, p => if 100 ≤ nI p then (bX7_overIn_79 x g43 q p) else (if (g43.2.2.1 9) (104 + 8 * q + 2) = (-6) then (bX7_overIn_79 x g43 q p) else (bX7_overIn_43 x n (upS g43 9 (sX7_hour (g43.2.2.1 9)).2) q (p + 1)))
def sX7_overIn (g : GS) (x : Int32) : Int32 × GS := if sX7_isCart (g.2.2.1 0) x = 0 then (((-1), g)) else (if (g.2.2.1 0) (104 + 8 * (nn x) + 2) = (-6) then (((-5), g)) else (bX7_overIn_43 x 101 (upS g 9 (g.2.2.1 0)) (nn x) 0))
set_option maxHeartbeats 4000000 in
set_option maxRecDepth 100000 in
theorem mX7_overIn (l : Launch) (E : EE) (B : Nat) (g : GS) (x : Int32) (hgm : Gm g) : CG l yX7_overIn cX7_overIn 5 (some .int) 6 148 E B [.ref (B + 459), .int x] g (some (.int (sX7_overIn g x).1)) ((sX7_overIn g x).2) := by
  refine mkI (own := RX7) (ty := .int) rfl (by decide) rfl (rfl) (Nat.le_of_ble_eq_true rfl) (fun P_ e_ s_ m_ a_ below meth cd Q X fin ls hl hJ => ?_)
  have hx := X.1
  have hb := X.2.1
  have hl : lv_has ls 5 [(0, .ref (B + 459)), (1, .int x)] := hl
  have bk_79 : ∀  (g79 : GS)  (q : Nat)  (p : Nat), (Gm g79) → (q < 8) → ∀ (H : Heap) (locs : List Loc) (ls : Array Slot), JG E B s_ (g79) H locs → lv_has ls 5 [(0, .ref (B + 459)), (1, .int (nI q)), (2, .int 3240), (3, .int (nI p))] → sX7_overIn g x = bX7_overIn_79 x g79 q p → W P_ l e_ (rmm 6 148 0 0) s_ m_ a_ below meth cd H locs 0 0 Q (F0 m_ 79 ls []) := by
    intro g79 q p hgm hq H locs ls hJ hl hs
    refine lv_aload_n hx hb dX7_overIn_79 rfl (lv_at hl 0 rfl) ?_
    refine gX7_7 X hJ (w := g79.2.2.2) rfl dX7_overIn_80 ?_
    refine lv_iload_n hx hb dX7_overIn_83 rfl (lv_at hl 2 rfl) ?_
    refine lv_iload_n hx hb dX7_overIn_84 rfl (lv_at hl 1 rfl) ?_
    refine kX7_40 X hJ (qX7_cartAt l E B _ 9 q) rfl hl.1 ⟨Nat.le_of_ble_eq_true rfl, Nat.le_of_ble_eq_true rfl⟩ ⟨Nat.le_refl _, Nat.le_refl _⟩ (rest := [.ref (B + 460)]) rfl (Nat.le_of_ble_eq_true rfl) dX7_overIn_85 (fun H locs hJ => ?_)
    refine lv_iconst (v := 2) hx hb dX7_overIn_88 (by decide) ?_
    refine xiadd (z := nI (360 * 9 + (104 + 8 * q + 2))) hx hb dX7_overIn_89 (nI_a3 9 (104 + 8 * q) 2) ?_
    refine ld_s X hJ (t := 9) (w := g79.2.2.1 9) (by omega) rfl (j := 104 + 8 * q + 2) (rfl) (by omega) dX7_overIn_90 ?_
    refine lv_bipush (v := (-6)) hx hb dX7_overIn_91 (by decide) ?_
    refine lv_icmp_ne (tgt := 100) hx hb dX7_overIn_93 (by decide) (fun c_93 => ?_) (fun c_93 => ?_)
    · skip
      refine lv_bipush (v := (-6)) hx hb dX7_overIn_100 (by decide) ?_
      have hs : sX7_overIn g x = ((-6), g79) := hs.trans (by unfold bX7_overIn_79; rw [if_neg c_93])
      exact fin (by rw [hs]; dsimp only; exact hJ) (by rw [hs]) dX7_overIn_102
    · skip
      refine lv_iload_n hx hb dX7_overIn_96 rfl (lv_at hl 3 rfl) ?_
      refine lv_goto (tgt := 102) hx hb dX7_overIn_97 (by decide) ?_
      have hs : sX7_overIn g x = (nI p, g79) := hs.trans (by unfold bX7_overIn_79; rw [if_pos c_93])
      exact fin (by rw [hs]; dsimp only; exact hJ) (by rw [hs]) dX7_overIn_102
  have bk_43 : ∀ (n : Nat) (g43 : GS)  (q : Nat)  (p : Nat), 100 - p < n → (Gm g43) → (q < 8) → (p ≤ 100) → ∀ (H : Heap) (locs : List Loc) (ls : Array Slot), JG E B s_ (g43) H locs → lv_has ls 5 [(0, .ref (B + 459)), (1, .int (nI q)), (2, .int 3240), (3, .int (nI p))] → sX7_overIn g x = bX7_overIn_43 x n g43 q p → W P_ l e_ (rmm 6 148 0 0) s_ m_ a_ below meth cd H locs 0 0 Q (F0 m_ 43 ls []) := by
    intro n
    induction n with
    | zero => intro g43 q p hm; exact absurd hm (Nat.not_lt_zero _)
    | succ n ih =>
      intro g43 q p hm hgm hq hp H locs ls hJ hl hs
      refine lv_iload_n hx hb dX7_overIn_43 rfl (lv_at hl 3 rfl) ?_
      refine lv_bipush (v := 100) hx hb dX7_overIn_44 (by decide) ?_
      refine lv_icmp_ge (tgt := 79) hx hb dX7_overIn_46 (by decide) (fun c_46 => ?_) (fun c_46 => ?_)
      · skip
        have hs : sX7_overIn g x = bX7_overIn_79 x g43 q p := hs.trans (by rw [bX7_overIn_43, if_pos c_46])
        exact bk_79 g43 q p (hgm) (by omega) _ _ _ hJ (lv_sub hl [0, 1, 2, 3] rfl) hs
      · skip
        have hp2 := lit_lt (n := 100) c_46 (by omega) (by omega)
        refine lv_aload_n hx hb dX7_overIn_49 rfl (lv_at hl 0 rfl) ?_
        refine gX7_7 X hJ (w := g43.2.2.2) rfl dX7_overIn_50 ?_
        refine lv_iload_n hx hb dX7_overIn_53 rfl (lv_at hl 2 rfl) ?_
        refine lv_iload_n hx hb dX7_overIn_54 rfl (lv_at hl 1 rfl) ?_
        refine kX7_40 X hJ (qX7_cartAt l E B _ 9 q) rfl hl.1 ⟨Nat.le_of_ble_eq_true rfl, Nat.le_of_ble_eq_true rfl⟩ ⟨Nat.le_refl _, Nat.le_refl _⟩ (rest := [.ref (B + 460)]) rfl (Nat.le_of_ble_eq_true rfl) dX7_overIn_55 (fun H locs hJ => ?_)
        refine lv_iconst (v := 2) hx hb dX7_overIn_58 (by decide) ?_
        refine xiadd (z := nI (360 * 9 + (104 + 8 * q + 2))) hx hb dX7_overIn_59 (nI_a3 9 (104 + 8 * q) 2) ?_
        refine ld_s X hJ (t := 9) (w := g43.2.2.1 9) (by omega) rfl (j := 104 + 8 * q + 2) (rfl) (by omega) dX7_overIn_60 ?_
        refine lv_bipush (v := (-6)) hx hb dX7_overIn_61 (by decide) ?_
        refine lv_icmp_eq (tgt := 79) hx hb dX7_overIn_63 (by decide) (fun c_63 => ?_) (fun c_63 => ?_)
        · skip
          have hs : sX7_overIn g x = bX7_overIn_79 x g43 q p := hs.trans (by rw [bX7_overIn_43, if_neg c_46, if_pos c_63])
          exact bk_79 g43 q p (hgm) (by omega) _ _ _ hJ (lv_sub hl [0, 1, 2, 3] rfl) hs
        · skip
          refine lv_aload_n hx hb dX7_overIn_66 rfl (lv_at hl 0 rfl) ?_
          refine lv_iload_n hx hb dX7_overIn_67 rfl (lv_at hl 2 rfl) ?_
          refine kX7_76 X hJ (by have h := mX7_hour l E B g43 9 (g43.2.2.1 9) (by omega) ((hgm).1 9 (by omega)); rw [upS_self] at h; exact h) rfl (by omega) (at_M rfl) hl.1 ⟨Nat.le_of_ble_eq_true rfl, Nat.le_of_ble_eq_true rfl⟩ ⟨Nat.le_refl _, Nat.le_refl _⟩ (rest := []) rfl (Nat.le_of_ble_eq_true rfl) dX7_overIn_68 (fun H locs hJ => ?_)
          refine lv_istore (lv' := [(4, .int ((sX7_hour (g43.2.2.1 9)).1)), (0, .ref (B + 459)), (1, .int (nI q)), (2, .int 3240), (3, .int (nI p))]) hx hb dX7_overIn_71 hl (by decide) rfl (fun ls hl => ?_)
          refine lv_iinc (v := nI (p + 1)) (lv' := [(3, .int (nI (p + 1))), (4, .int ((sX7_hour (g43.2.2.1 9)).1)), (0, .ref (B + 459)), (1, .int (nI q)), (2, .int 3240)]) hx hb dX7_overIn_73 hl (k := 4) rfl (by first | exact nI_add _ _ | rfl) (by decide) rfl (fun ls hl => ?_)
          refine lv_goto (tgt := 43) hx hb dX7_overIn_76 (by decide) ?_
          have hs : sX7_overIn g x = bX7_overIn_43 x n (upS g43 9 (sX7_hour (g43.2.2.1 9)).2) q (p + 1) := hs.trans (by rw [bX7_overIn_43, if_neg c_46, if_neg c_63])
          exact ih (upS g43 9 (sX7_hour (g43.2.2.1 9)).2) q (p + 1) (by omega) (Gm_upS (hgm) (Rn_hour ((hgm).1 9 (by omega)))) (hq) (by omega) _ _ _ hJ (lv_sub hl [2, 3, 4, 0] rfl) hs
  refine lv_aload_n hx hb dX7_overIn_0 rfl (lv_at hl 0 rfl) ?_
  refine lv_iload_n hx hb dX7_overIn_1 rfl (lv_at hl 1 rfl) ?_
  refine kX7_95 X hJ (mX7_isCart l E B _ x (g.2.2.1 0) rfl) rfl (by omega) (at_M rfl) hl.1 ⟨Nat.le_of_ble_eq_true rfl, Nat.le_of_ble_eq_true rfl⟩ ⟨Nat.le_refl _, Nat.le_refl _⟩ (rest := []) rfl (Nat.le_of_ble_eq_true rfl) dX7_overIn_2 (fun H locs hJ => ?_)
  refine lv_if_ne (tgt := 10) hx hb dX7_overIn_5 (by decide) (fun c_5 => ?_) (fun c_5 => ?_)
  · skip
    have hC_x := (isCart_of (hgm.1 0 (by omega)).1 c_5).2.2
    have hl : lv_has ls 5 [(0, .ref (B + 459)), (1, .int (nI (nn x)))] := by rw [← show x = nI (nn x) from (isCart_of (hgm.1 0 (by omega)).1 c_5).1]; exact hl
    refine lv_aload_n hx hb dX7_overIn_10 rfl (lv_at hl 0 rfl) ?_
    refine gX7_7 X hJ (w := g.2.2.2) rfl dX7_overIn_11 ?_
    refine lv_iconst (v := 0) hx hb dX7_overIn_14 (by decide) ?_
    refine lv_iload_n hx hb dX7_overIn_15 rfl (lv_at hl 1 rfl) ?_
    refine kX7_40 X hJ (qX7_cartAt l E B _ 0 (nn x)) rfl hl.1 ⟨Nat.le_of_ble_eq_true rfl, Nat.le_of_ble_eq_true rfl⟩ ⟨Nat.le_refl _, Nat.le_refl _⟩ (rest := [.ref (B + 460)]) rfl (Nat.le_of_ble_eq_true rfl) dX7_overIn_16 (fun H locs hJ => ?_)
    refine lv_iconst (v := 2) hx hb dX7_overIn_19 (by decide) ?_
    refine xiadd (z := nI (360 * 0 + (104 + 8 * (nn x) + 2))) hx hb dX7_overIn_20 (nI_a3 0 (104 + 8 * (nn x)) 2) ?_
    refine ld_s X hJ (t := 0) (w := g.2.2.1 0) (by omega) rfl (j := 104 + 8 * (nn x) + 2) (rfl) (by omega) dX7_overIn_21 ?_
    refine lv_bipush (v := (-6)) hx hb dX7_overIn_22 (by decide) ?_
    refine lv_icmp_ne (tgt := 30) hx hb dX7_overIn_24 (by decide) (fun c_24 => ?_) (fun c_24 => ?_)
    · skip
      refine lv_aload_n hx hb dX7_overIn_30 rfl (lv_at hl 0 rfl) ?_
      refine lv_iconst (v := 0) hx hb dX7_overIn_31 (by decide) ?_
      refine lv_bipush (v := 9) hx hb dX7_overIn_32 (by decide) ?_
      refine kX7_27 X hJ (nX7_copies l E B g 0 9 (by omega) (by omega) (by omega)) rfl (by omega) (at_M rfl) hl.1 ⟨Nat.le_of_ble_eq_true rfl, Nat.le_of_ble_eq_true rfl⟩ ⟨Nat.le_refl _, Nat.le_refl _⟩ (rest := []) rfl (Nat.le_of_ble_eq_true rfl) dX7_overIn_34 (fun H locs hJ => ?_)
      refine lv_sipush (v := 3240) hx hb dX7_overIn_37 (by decide) ?_
      refine lv_istore_n (lv' := [(2, .int 3240), (0, .ref (B + 459)), (1, .int (nI (nn x)))]) hx hb dX7_overIn_40 rfl hl (by decide) rfl (fun ls hl => ?_)
      refine lv_iconst (v := 0) hx hb dX7_overIn_41 (by decide) ?_
      refine lv_istore_n (lv' := [(3, .int 0), (2, .int 3240), (0, .ref (B + 459)), (1, .int (nI (nn x)))]) hx hb dX7_overIn_42 rfl hl (by decide) rfl (fun ls hl => ?_)
      have hs : sX7_overIn g x = bX7_overIn_43 x 101 (upS g 9 (g.2.2.1 0)) (nn x) 0 := by unfold sX7_overIn; rw [if_neg c_5, if_neg c_24]
      exact bk_43 101 (upS g 9 (g.2.2.1 0)) (nn x) 0 (by omega) (Gm_upS (hgm) ((hgm).1 0 (by omega))) (by omega) (by omega) _ _ _ hJ (lv_sub hl [2, 3, 1, 0] rfl) hs
    · skip
      refine lv_bipush (v := (-5)) hx hb dX7_overIn_27 (by decide) ?_
      have hs : sX7_overIn g x = ((-5), g) := by unfold sX7_overIn; rw [if_neg c_5, if_pos c_24]
      exact fin (by rw [hs]; dsimp only; exact hJ) (by rw [hs]) dX7_overIn_29
  · skip
    refine lv_iconst (v := (-1)) hx hb dX7_overIn_8 (by decide) ?_
    have hs : sX7_overIn g x = ((-1), g) := by unfold sX7_overIn; rw [if_pos c_5]
    exact fin (by rw [hs]; dsimp only; exact hJ) (by rw [hs]) dX7_overIn_9

def sX7_would (g : GS) (x : Int32) (y : Int32) : Int32 × GS := if sX7_in x.toInt64 1 99 = 0 then (((-2), g)) else (if sX7_in y.toInt64 0 3 = 0 then (((-2), g)) else (if y = 0 then (((sX7_hours ((upS g 9 (g.2.2.1 0)).2.2.1 9) x).1, upS (upS g 9 (g.2.2.1 0)) 9 (sX7_hours ((upS g 9 (g.2.2.1 0)).2.2.1 9) x).2)) else (if y = 1 then (((sX7_ofCarts ((upS (upS g 9 (g.2.2.1 0)) 9 (sX7_hours ((upS g 9 (g.2.2.1 0)).2.2.1 9) x).2).2.2.1 9) 6) - (sX7_ofCarts ((upS (upS g 9 (g.2.2.1 0)) 9 (sX7_hours ((upS g 9 (g.2.2.1 0)).2.2.1 9) x).2).2.2.1 0) 6), upS (upS g 9 (g.2.2.1 0)) 9 (sX7_hours ((upS g 9 (g.2.2.1 0)).2.2.1 9) x).2)) else (if y = 2 then (((sX7_ofCarts ((upS (upS g 9 (g.2.2.1 0)) 9 (sX7_hours ((upS g 9 (g.2.2.1 0)).2.2.1 9) x).2).2.2.1 9) 7) - (sX7_ofCarts ((upS (upS g 9 (g.2.2.1 0)) 9 (sX7_hours ((upS g 9 (g.2.2.1 0)).2.2.1 9) x).2).2.2.1 0) 7), upS (upS g 9 (g.2.2.1 0)) 9 (sX7_hours ((upS g 9 (g.2.2.1 0)).2.2.1 9) x).2)) else ((sX7_waitingSet ((upS (upS g 9 (g.2.2.1 0)) 9 (sX7_hours ((upS g 9 (g.2.2.1 0)).2.2.1 9) x).2).2.2.1 9), upS (upS g 9 (g.2.2.1 0)) 9 (sX7_hours ((upS g 9 (g.2.2.1 0)).2.2.1 9) x).2))))))
set_option maxHeartbeats 4000000 in
set_option maxRecDepth 100000 in
theorem mX7_would (l : Launch) (E : EE) (B : Nat) (g : GS) (x : Int32) (y : Int32) (hgm : Gm g) : CG l yX7_would cX7_would 5 (some .int) 7 172 E B [.ref (B + 459), .int x, .int y] g (some (.int (sX7_would g x y).1)) ((sX7_would g x y).2) := by
  refine mkI (own := RX7) (ty := .int) rfl (by decide) rfl (rfl) (Nat.le_of_ble_eq_true rfl) (fun P_ e_ s_ m_ a_ below meth cd Q X fin ls hl hJ => ?_)
  have hx := X.1
  have hb := X.2.1
  have hl : lv_has ls 5 [(0, .ref (B + 459)), (1, .int x), (2, .int y)] := hl
  refine lv_iload_n hx hb dX7_would_0 rfl (lv_at hl 1 rfl) ?_
  refine lv_i2l hx hb dX7_would_1 rfl ?_
  refine lv_lconst (v := 1) hx hb dX7_would_2 (by decide) ?_
  refine lv_ldc2 (own := RX7) hx hb X.2.2.2.1 (X.2.2.2.2.1 (.constantLong RX7 108 99) (tw (i := 910) (by decide +kernel) (by decide))) dX7_would_3 ?_
  refine kX7_81 X hJ (mX7_in l E B _ x.toInt64 1 99) rfl hl.1 ⟨Nat.le_of_ble_eq_true rfl, Nat.le_of_ble_eq_true rfl⟩ ⟨Nat.le_refl _, Nat.le_refl _⟩ (rest := []) rfl (Nat.le_of_ble_eq_true rfl) dX7_would_6 (fun H locs hJ => ?_)
  refine lv_if_eq (tgt := 24) hx hb dX7_would_9 (by decide) (fun c_9 => ?_) (fun c_9 => ?_)
  · skip
    refine lv_bipush (v := (-2)) hx hb dX7_would_24 (by decide) ?_
    have hs : sX7_would g x y = ((-2), g) := by unfold sX7_would; rw [if_pos c_9]
    exact fin (by rw [hs]; dsimp only; exact hJ) (by rw [hs]) dX7_would_26
  · skip
    refine lv_iload_n hx hb dX7_would_12 rfl (lv_at hl 2 rfl) ?_
    refine lv_i2l hx hb dX7_would_13 rfl ?_
    refine lv_lconst (v := 0) hx hb dX7_would_14 (by decide) ?_
    refine lv_ldc2 (own := RX7) hx hb X.2.2.2.1 (X.2.2.2.2.1 (.constantLong RX7 187 3) (tw (i := 1030) (by decide +kernel) (by decide))) dX7_would_15 ?_
    refine kX7_81 X hJ (mX7_in l E B _ y.toInt64 0 3) rfl hl.1 ⟨Nat.le_of_ble_eq_true rfl, Nat.le_of_ble_eq_true rfl⟩ ⟨Nat.le_refl _, Nat.le_refl _⟩ (rest := []) rfl (Nat.le_of_ble_eq_true rfl) dX7_would_18 (fun H locs hJ => ?_)
    refine lv_if_ne (tgt := 27) hx hb dX7_would_21 (by decide) (fun c_21 => ?_) (fun c_21 => ?_)
    · skip
      refine lv_aload_n hx hb dX7_would_27 rfl (lv_at hl 0 rfl) ?_
      refine lv_iconst (v := 0) hx hb dX7_would_28 (by decide) ?_
      refine lv_bipush (v := 9) hx hb dX7_would_29 (by decide) ?_
      refine kX7_27 X hJ (nX7_copies l E B g 0 9 (by omega) (by omega) (by omega)) rfl (by omega) (at_M rfl) hl.1 ⟨Nat.le_of_ble_eq_true rfl, Nat.le_of_ble_eq_true rfl⟩ ⟨Nat.le_refl _, Nat.le_refl _⟩ (rest := []) rfl (Nat.le_of_ble_eq_true rfl) dX7_would_31 (fun H locs hJ => ?_)
      refine lv_sipush (v := 3240) hx hb dX7_would_34 (by decide) ?_
      refine lv_istore_n (lv' := [(3, .int 3240), (0, .ref (B + 459)), (1, .int x), (2, .int y)]) hx hb dX7_would_37 rfl hl (by decide) rfl (fun ls hl => ?_)
      refine lv_aload_n hx hb dX7_would_38 rfl (lv_at hl 1 rfl) ?_
      refine lv_iload_n hx hb dX7_would_39 rfl (lv_at hl 0 rfl) ?_
      refine lv_iload_n hx hb dX7_would_40 rfl (lv_at hl 2 rfl) ?_
      refine kX7_153 X hJ (by have h := mX7_hours l E B (upS g 9 (g.2.2.1 0)) 9 x ((upS g 9 (g.2.2.1 0)).2.2.1 9) (by omega) ((Gm_upS (hgm) ((hgm).1 0 (by omega))).1 9 (by omega)) (in99_of c_9); rw [upS_self] at h; exact h) rfl (by omega) (at_M rfl) hl.1 ⟨Nat.le_of_ble_eq_true rfl, Nat.le_of_ble_eq_true rfl⟩ ⟨Nat.le_refl _, Nat.le_refl _⟩ (rest := []) rfl (Nat.le_of_ble_eq_true rfl) dX7_would_41 (fun H locs hJ => ?_)
      refine lv_istore (lv' := [(4, .int ((sX7_hours ((upS g 9 (g.2.2.1 0)).2.2.1 9) x).1)), (3, .int 3240), (0, .ref (B + 459)), (1, .int x), (2, .int y)]) hx hb dX7_would_44 hl (by decide) rfl (fun ls hl => ?_)
      refine lv_iload_n hx hb dX7_would_46 rfl (lv_at hl 4 rfl) ?_
      refine lv_if_ne (tgt := 55) hx hb dX7_would_47 (by decide) (fun c_47 => ?_) (fun c_47 => ?_)
      · skip
        refine lv_iload_n hx hb dX7_would_55 rfl (lv_at hl 4 rfl) ?_
        refine lv_iconst (v := 1) hx hb dX7_would_56 (by decide) ?_
        refine lv_icmp_ne (tgt := 78) hx hb dX7_would_57 (by decide) (fun c_57 => ?_) (fun c_57 => ?_)
        · skip
          refine lv_iload_n hx hb dX7_would_78 rfl (lv_at hl 4 rfl) ?_
          refine lv_iconst (v := 2) hx hb dX7_would_79 (by decide) ?_
          refine lv_icmp_ne (tgt := 101) hx hb dX7_would_80 (by decide) (fun c_80 => ?_) (fun c_80 => ?_)
          · skip
            refine lv_aload_n hx hb dX7_would_101 rfl (lv_at hl 2 rfl) ?_
            refine lv_iload_n hx hb dX7_would_102 rfl (lv_at hl 1 rfl) ?_
            refine kX7_167 X hJ (mX7_waitingSet l E B _ 9 ((upS (upS g 9 (g.2.2.1 0)) 9 (sX7_hours ((upS g 9 (g.2.2.1 0)).2.2.1 9) x).2).2.2.1 9) (by omega) rfl ((Gm_upS (Gm_upS (hgm) ((hgm).1 0 (by omega))) (Rn_hours ((Gm_upS (hgm) ((hgm).1 0 (by omega))).1 9 (by omega)))).1 9 (by omega))) rfl (by omega) (at_M rfl) hl.1 ⟨Nat.le_of_ble_eq_true rfl, Nat.le_of_ble_eq_true rfl⟩ ⟨Nat.le_refl _, Nat.le_refl _⟩ (rest := []) rfl (Nat.le_of_ble_eq_true rfl) dX7_would_103 (fun H locs hJ => ?_)
            have hs : sX7_would g x y = (sX7_waitingSet ((upS (upS g 9 (g.2.2.1 0)) 9 (sX7_hours ((upS g 9 (g.2.2.1 0)).2.2.1 9) x).2).2.2.1 9), upS (upS g 9 (g.2.2.1 0)) 9 (sX7_hours ((upS g 9 (g.2.2.1 0)).2.2.1 9) x).2) := by unfold sX7_would; rw [if_neg c_9, if_neg c_21, if_neg c_47, if_neg c_57, if_neg c_80]
            exact fin (by rw [hs]; dsimp only; exact hJ) (by rw [hs]) dX7_would_106
          · skip
            refine lv_aload_n hx hb dX7_would_83 rfl (lv_at hl 2 rfl) ?_
            refine lv_iload_n hx hb dX7_would_84 rfl (lv_at hl 1 rfl) ?_
            refine lv_bipush (v := 7) hx hb dX7_would_85 (by decide) ?_
            refine kX7_170 X hJ (mX7_ofCarts l E B _ 9 7 ((upS (upS g 9 (g.2.2.1 0)) 9 (sX7_hours ((upS g 9 (g.2.2.1 0)).2.2.1 9) x).2).2.2.1 9) (by omega) rfl ((Gm_upS (Gm_upS (hgm) ((hgm).1 0 (by omega))) (Rn_hours ((Gm_upS (hgm) ((hgm).1 0 (by omega))).1 9 (by omega)))).1 9 (by omega)) (by omega)) rfl (by omega) (at_M rfl) hl.1 ⟨Nat.le_of_ble_eq_true rfl, Nat.le_of_ble_eq_true rfl⟩ ⟨Nat.le_refl _, Nat.le_refl _⟩ (rest := []) rfl (Nat.le_of_ble_eq_true rfl) dX7_would_87 (fun H locs hJ => ?_)
            refine lv_aload_n hx hb dX7_would_90 rfl (lv_at hl 2 rfl) ?_
            refine lv_iconst (v := 0) hx hb dX7_would_91 (by decide) ?_
            refine lv_bipush (v := 7) hx hb dX7_would_92 (by decide) ?_
            refine kX7_170 X hJ (mX7_ofCarts l E B _ 0 7 ((upS (upS g 9 (g.2.2.1 0)) 9 (sX7_hours ((upS g 9 (g.2.2.1 0)).2.2.1 9) x).2).2.2.1 0) (by omega) rfl ((Gm_upS (Gm_upS (hgm) ((hgm).1 0 (by omega))) (Rn_hours ((Gm_upS (hgm) ((hgm).1 0 (by omega))).1 9 (by omega)))).1 0 (by omega)) (by omega)) rfl (by omega) (at_M rfl) hl.1 ⟨Nat.le_of_ble_eq_true rfl, Nat.le_of_ble_eq_true rfl⟩ ⟨Nat.le_refl _, Nat.le_refl _⟩ (rest := [.int (sX7_ofCarts ((upS (upS g 9 (g.2.2.1 0)) 9 (sX7_hours ((upS g 9 (g.2.2.1 0)).2.2.1 9) x).2).2.2.1 9) 7)]) rfl (Nat.le_of_ble_eq_true rfl) dX7_would_94 (fun H locs hJ => ?_)
            refine lv_isub hx hb dX7_would_97 ?_
            refine lv_goto (tgt := 106) hx hb dX7_would_98 (by decide) ?_
            have hs : sX7_would g x y = ((sX7_ofCarts ((upS (upS g 9 (g.2.2.1 0)) 9 (sX7_hours ((upS g 9 (g.2.2.1 0)).2.2.1 9) x).2).2.2.1 9) 7) - (sX7_ofCarts ((upS (upS g 9 (g.2.2.1 0)) 9 (sX7_hours ((upS g 9 (g.2.2.1 0)).2.2.1 9) x).2).2.2.1 0) 7), upS (upS g 9 (g.2.2.1 0)) 9 (sX7_hours ((upS g 9 (g.2.2.1 0)).2.2.1 9) x).2) := by unfold sX7_would; rw [if_neg c_9, if_neg c_21, if_neg c_47, if_neg c_57, if_pos c_80]
            exact fin (by rw [hs]; dsimp only; exact hJ) (by rw [hs]) dX7_would_106
        · skip
          refine lv_aload_n hx hb dX7_would_60 rfl (lv_at hl 2 rfl) ?_
          refine lv_iload_n hx hb dX7_would_61 rfl (lv_at hl 1 rfl) ?_
          refine lv_bipush (v := 6) hx hb dX7_would_62 (by decide) ?_
          refine kX7_170 X hJ (mX7_ofCarts l E B _ 9 6 ((upS (upS g 9 (g.2.2.1 0)) 9 (sX7_hours ((upS g 9 (g.2.2.1 0)).2.2.1 9) x).2).2.2.1 9) (by omega) rfl ((Gm_upS (Gm_upS (hgm) ((hgm).1 0 (by omega))) (Rn_hours ((Gm_upS (hgm) ((hgm).1 0 (by omega))).1 9 (by omega)))).1 9 (by omega)) (by omega)) rfl (by omega) (at_M rfl) hl.1 ⟨Nat.le_of_ble_eq_true rfl, Nat.le_of_ble_eq_true rfl⟩ ⟨Nat.le_refl _, Nat.le_refl _⟩ (rest := []) rfl (Nat.le_of_ble_eq_true rfl) dX7_would_64 (fun H locs hJ => ?_)
          refine lv_aload_n hx hb dX7_would_67 rfl (lv_at hl 2 rfl) ?_
          refine lv_iconst (v := 0) hx hb dX7_would_68 (by decide) ?_
          refine lv_bipush (v := 6) hx hb dX7_would_69 (by decide) ?_
          refine kX7_170 X hJ (mX7_ofCarts l E B _ 0 6 ((upS (upS g 9 (g.2.2.1 0)) 9 (sX7_hours ((upS g 9 (g.2.2.1 0)).2.2.1 9) x).2).2.2.1 0) (by omega) rfl ((Gm_upS (Gm_upS (hgm) ((hgm).1 0 (by omega))) (Rn_hours ((Gm_upS (hgm) ((hgm).1 0 (by omega))).1 9 (by omega)))).1 0 (by omega)) (by omega)) rfl (by omega) (at_M rfl) hl.1 ⟨Nat.le_of_ble_eq_true rfl, Nat.le_of_ble_eq_true rfl⟩ ⟨Nat.le_refl _, Nat.le_refl _⟩ (rest := [.int (sX7_ofCarts ((upS (upS g 9 (g.2.2.1 0)) 9 (sX7_hours ((upS g 9 (g.2.2.1 0)).2.2.1 9) x).2).2.2.1 9) 6)]) rfl (Nat.le_of_ble_eq_true rfl) dX7_would_71 (fun H locs hJ => ?_)
          refine lv_isub hx hb dX7_would_74 ?_
          refine lv_goto (tgt := 106) hx hb dX7_would_75 (by decide) ?_
          have hs : sX7_would g x y = ((sX7_ofCarts ((upS (upS g 9 (g.2.2.1 0)) 9 (sX7_hours ((upS g 9 (g.2.2.1 0)).2.2.1 9) x).2).2.2.1 9) 6) - (sX7_ofCarts ((upS (upS g 9 (g.2.2.1 0)) 9 (sX7_hours ((upS g 9 (g.2.2.1 0)).2.2.1 9) x).2).2.2.1 0) 6), upS (upS g 9 (g.2.2.1 0)) 9 (sX7_hours ((upS g 9 (g.2.2.1 0)).2.2.1 9) x).2) := by unfold sX7_would; rw [if_neg c_9, if_neg c_21, if_neg c_47, if_pos c_57]
          exact fin (by rw [hs]; dsimp only; exact hJ) (by rw [hs]) dX7_would_106
      · skip
        refine lv_iload hx hb dX7_would_50 (lv_at hl 0 rfl) ?_
        refine lv_goto (tgt := 106) hx hb dX7_would_52 (by decide) ?_
        have hs : sX7_would g x y = ((sX7_hours ((upS g 9 (g.2.2.1 0)).2.2.1 9) x).1, upS (upS g 9 (g.2.2.1 0)) 9 (sX7_hours ((upS g 9 (g.2.2.1 0)).2.2.1 9) x).2) := by unfold sX7_would; rw [if_neg c_9, if_neg c_21, if_pos c_47]
        exact fin (by rw [hs]; dsimp only; exact hJ) (by rw [hs]) dX7_would_106
    · skip
      refine lv_bipush (v := (-2)) hx hb dX7_would_24 (by decide) ?_
      have hs : sX7_would g x y = ((-2), g) := by unfold sX7_would; rw [if_neg c_9, if_pos c_21]
      exact fin (by rw [hs]; dsimp only; exact hJ) (by rw [hs]) dX7_would_26

def sX7_undo (g : GS) : Int32 × GS := if g.2.2.2 0 = 0 then (((-5), g)) else ((((upR (upS g 0 (g.2.2.1 (nn (g.2.2.2 0)))) (upd ((upS g 0 (g.2.2.1 (nn (g.2.2.2 0)))).2.2.2) (0) ((((upS g 0 (g.2.2.1 (nn (g.2.2.2 0)))).2.2.2) 0) - 1))).2.2.2) 0, upR (upS g 0 (g.2.2.1 (nn (g.2.2.2 0)))) (upd ((upS g 0 (g.2.2.1 (nn (g.2.2.2 0)))).2.2.2) (0) ((((upS g 0 (g.2.2.1 (nn (g.2.2.2 0)))).2.2.2) 0) - 1))))
set_option maxHeartbeats 4000000 in
set_option maxRecDepth 100000 in
theorem mX7_undo (l : Launch) (E : EE) (B : Nat) (g : GS)  (hgm : Gm g) : CG l yX7_undo cX7_undo 1 (some .int) 1 23 E B [.ref (B + 459)] g (some (.int (sX7_undo g).1)) ((sX7_undo g).2) := by
  refine mkI (own := RX7) (ty := .int) rfl (by decide) rfl (rfl) (Nat.le_of_ble_eq_true rfl) (fun P_ e_ s_ m_ a_ below meth cd Q X fin ls hl hJ => ?_)
  have hx := X.1
  have hb := X.2.1
  have hl : lv_has ls 1 [(0, .ref (B + 459))] := hl
  refine lv_aload_n hx hb dX7_undo_0 rfl (lv_at hl 0 rfl) ?_
  refine gX7_23 X hJ (w := g.2.2.2) rfl dX7_undo_1 ?_
  refine lv_if_ne (tgt := 10) hx hb dX7_undo_4 (by decide) (fun c_4 => ?_) (fun c_4 => ?_)
  · skip
    refine lv_aload_n hx hb dX7_undo_10 rfl (lv_at hl 0 rfl) ?_
    refine lv_aload_n hx hb dX7_undo_11 rfl (lv_at hl 0 rfl) ?_
    refine gX7_23 X hJ (w := g.2.2.2) rfl dX7_undo_12 ?_
    refine cvt (y := nI (nn (g.2.2.2 0))) (hgm.2.2.eq) ?_
    have hst := hgm.2.2.le
    have hst0 : ¬ nn (g.2.2.2 0) = 0 := fun e => c_4 (hgm.2.2.eq.trans (by rw [e]; rfl))
    refine lv_iconst (v := 0) hx hb dX7_undo_15 (by decide) ?_
    refine kX7_27 X hJ (nX7_copies l E B g (nn (g.2.2.2 0)) 0 (by omega) (by omega) (by omega)) rfl (by omega) (at_M rfl) hl.1 ⟨Nat.le_of_ble_eq_true rfl, Nat.le_of_ble_eq_true rfl⟩ ⟨Nat.le_refl _, Nat.le_refl _⟩ (rest := []) rfl (Nat.le_of_ble_eq_true rfl) dX7_undo_16 (fun H locs hJ => ?_)
    refine lv_aload_n hx hb dX7_undo_19 rfl (lv_at hl 0 rfl) ?_
    refine lv_dup hx hb dX7_undo_20 rfl ?_
    refine gX7_23 X hJ (w := (upS g 0 (g.2.2.1 (nn (g.2.2.2 0)))).2.2.2) rfl dX7_undo_21 ?_
    refine lv_iconst (v := 1) hx hb dX7_undo_24 (by decide) ?_
    refine lv_isub hx hb dX7_undo_25 ?_
    have hJ : JG E B s_ (upR (upS g 0 (g.2.2.1 (nn (g.2.2.2 0)))) (upS g 0 (g.2.2.1 (nn (g.2.2.2 0)))).2.2.2) _ _ := hJ
    refine pX7_23 X hJ  dX7_undo_26 (fun H locs hJ => ?_)
    refine lv_aload_n hx hb dX7_undo_29 rfl (lv_at hl 0 rfl) ?_
    refine gX7_23 X hJ (w := (upR (upS g 0 (g.2.2.1 (nn (g.2.2.2 0)))) (upd ((upS g 0 (g.2.2.1 (nn (g.2.2.2 0)))).2.2.2) (0) ((((upS g 0 (g.2.2.1 (nn (g.2.2.2 0)))).2.2.2) 0) - 1))).2.2.2) rfl dX7_undo_30 ?_
    have hs : sX7_undo g = (((upR (upS g 0 (g.2.2.1 (nn (g.2.2.2 0)))) (upd ((upS g 0 (g.2.2.1 (nn (g.2.2.2 0)))).2.2.2) (0) ((((upS g 0 (g.2.2.1 (nn (g.2.2.2 0)))).2.2.2) 0) - 1))).2.2.2) 0, upR (upS g 0 (g.2.2.1 (nn (g.2.2.2 0)))) (upd ((upS g 0 (g.2.2.1 (nn (g.2.2.2 0)))).2.2.2) (0) ((((upS g 0 (g.2.2.1 (nn (g.2.2.2 0)))).2.2.2) 0) - 1))) := by unfold sX7_undo; rw [if_neg c_4]
    exact fin (by rw [hs]; dsimp only; exact hJ) (by rw [hs]) dX7_undo_33
  · skip
    refine lv_bipush (v := (-5)) hx hb dX7_undo_7 (by decide) ?_
    have hs : sX7_undo g = ((-5), g) := by unfold sX7_undo; rw [if_pos c_4]
    exact fin (by rw [hs]; dsimp only; exact hJ) (by rw [hs]) dX7_undo_9

def sX7_save (g : GS) (x : Int32) : Int32 × GS := if sX7_isSlot x = 0 then (((-2), g)) else ((((upR (upS g (7 + (nn x)) (g.2.2.1 0)) (upd ((upS g (7 + (nn x)) (g.2.2.1 0)).2.2.2) (10 + (nn x)) 1)).2.2.1 0) (6), upR (upS g (7 + (nn x)) (g.2.2.1 0)) (upd ((upS g (7 + (nn x)) (g.2.2.1 0)).2.2.2) (10 + (nn x)) 1)))
set_option maxHeartbeats 4000000 in
set_option maxRecDepth 100000 in
theorem mX7_save (l : Launch) (E : EE) (B : Nat) (g : GS) (x : Int32) (hgm : Gm g) : CG l yX7_save cX7_save 2 (some .int) 1 23 E B [.ref (B + 459), .int x] g (some (.int (sX7_save g x).1)) ((sX7_save g x).2) := by
  refine mkI (own := RX7) (ty := .int) rfl (by decide) rfl (rfl) (Nat.le_of_ble_eq_true rfl) (fun P_ e_ s_ m_ a_ below meth cd Q X fin ls hl hJ => ?_)
  have hx := X.1
  have hb := X.2.1
  have hl : lv_has ls 2 [(0, .ref (B + 459)), (1, .int x)] := hl
  refine lv_iload_n hx hb dX7_save_0 rfl (lv_at hl 1 rfl) ?_
  refine kX7_252 X hJ (mX7_isSlot l E B _ x) rfl hl.1 ⟨Nat.le_of_ble_eq_true rfl, Nat.le_of_ble_eq_true rfl⟩ ⟨Nat.le_refl _, Nat.le_refl _⟩ (rest := []) rfl (Nat.le_of_ble_eq_true rfl) dX7_save_1 (fun H locs hJ => ?_)
  refine lv_if_ne (tgt := 10) hx hb dX7_save_4 (by decide) (fun c_4 => ?_) (fun c_4 => ?_)
  · skip
    have hx2 := (isSlot_of c_4).2
    have hl : lv_has ls 2 [(0, .ref (B + 459)), (1, .int (nI (nn x)))] := by rw [← show x = nI (nn x) from (isSlot_of c_4).1]; exact hl
    refine lv_aload_n hx hb dX7_save_10 rfl (lv_at hl 0 rfl) ?_
    refine lv_iconst (v := 0) hx hb dX7_save_11 (by decide) ?_
    refine lv_bipush (v := 7) hx hb dX7_save_12 (by decide) ?_
    refine lv_iload_n hx hb dX7_save_14 rfl (lv_at hl 1 rfl) ?_
    refine xiadd (z := nI (7 + (nn x))) hx hb dX7_save_15 (nI_add 7 (nn x)) ?_
    refine kX7_27 X hJ (nX7_copies l E B g 0 (7 + (nn x)) (by omega) (by omega) (by omega)) rfl (by omega) (at_M rfl) hl.1 ⟨Nat.le_of_ble_eq_true rfl, Nat.le_of_ble_eq_true rfl⟩ ⟨Nat.le_refl _, Nat.le_refl _⟩ (rest := []) rfl (Nat.le_of_ble_eq_true rfl) dX7_save_16 (fun H locs hJ => ?_)
    refine lv_aload_n hx hb dX7_save_19 rfl (lv_at hl 0 rfl) ?_
    refine gX7_13 X hJ (w := (upS g (7 + (nn x)) (g.2.2.1 0)).2.2.2) rfl dX7_save_20 ?_
    refine lv_iload_n hx hb dX7_save_23 rfl (lv_at hl 1 rfl) ?_
    refine lv_iconst (v := 1) hx hb dX7_save_24 (by decide) ?_
    have hJ : JG E B s_ (upR (upS g (7 + (nn x)) (g.2.2.1 0)) (upS g (7 + (nn x)) (g.2.2.1 0)).2.2.2) _ _ := hJ
    refine st_isSaved X hJ (j := nn x) (rfl) (by omega) (by rfl) dX7_save_25 (fun H locs hJ => ?_)
    refine lv_aload_n hx hb dX7_save_26 rfl (lv_at hl 0 rfl) ?_
    refine gX7_7 X hJ (w := (upR (upS g (7 + (nn x)) (g.2.2.1 0)) (upd ((upS g (7 + (nn x)) (g.2.2.1 0)).2.2.2) (10 + (nn x)) 1)).2.2.2) rfl dX7_save_27 ?_
    refine lv_bipush (v := 6) hx hb dX7_save_30 (by decide) ?_
    refine ld_s X hJ (t := 0) (w := (upR (upS g (7 + (nn x)) (g.2.2.1 0)) (upd ((upS g (7 + (nn x)) (g.2.2.1 0)).2.2.2) (10 + (nn x)) 1)).2.2.1 0) (by omega) rfl (j := 6) (by decide) (by omega) dX7_save_32 ?_
    have hs : sX7_save g x = (((upR (upS g (7 + (nn x)) (g.2.2.1 0)) (upd ((upS g (7 + (nn x)) (g.2.2.1 0)).2.2.2) (10 + (nn x)) 1)).2.2.1 0) (6), upR (upS g (7 + (nn x)) (g.2.2.1 0)) (upd ((upS g (7 + (nn x)) (g.2.2.1 0)).2.2.2) (10 + (nn x)) 1)) := by unfold sX7_save; rw [if_neg c_4]
    exact fin (by rw [hs]; dsimp only; exact hJ) (by rw [hs]) dX7_save_33
  · skip
    refine lv_bipush (v := (-2)) hx hb dX7_save_7 (by decide) ?_
    have hs : sX7_save g x = ((-2), g) := by unfold sX7_save; rw [if_pos c_4]
    exact fin (by rw [hs]; dsimp only; exact hJ) (by rw [hs]) dX7_save_9

def sX7_restore (g : GS) (x : Int32) : Int32 × GS := if sX7_isSlot x = 0 then (((-2), g)) else (if g.2.2.2 (10 + (nn x)) = 0 then (((-5), g)) else ((((upS (sX7_changes g) 0 ((sX7_changes g).2.2.1 (7 + (nn x)))).2.2.1 0) (6), upS (sX7_changes g) 0 ((sX7_changes g).2.2.1 (7 + (nn x))))))
set_option maxHeartbeats 4000000 in
set_option maxRecDepth 100000 in
theorem mX7_restore (l : Launch) (E : EE) (B : Nat) (g : GS) (x : Int32) (hgm : Gm g) : CG l yX7_restore cX7_restore 2 (some .int) 2 44 E B [.ref (B + 459), .int x] g (some (.int (sX7_restore g x).1)) ((sX7_restore g x).2) := by
  refine mkI (own := RX7) (ty := .int) rfl (by decide) rfl (rfl) (Nat.le_of_ble_eq_true rfl) (fun P_ e_ s_ m_ a_ below meth cd Q X fin ls hl hJ => ?_)
  have hx := X.1
  have hb := X.2.1
  have hl : lv_has ls 2 [(0, .ref (B + 459)), (1, .int x)] := hl
  refine lv_iload_n hx hb dX7_restore_0 rfl (lv_at hl 1 rfl) ?_
  refine kX7_252 X hJ (mX7_isSlot l E B _ x) rfl hl.1 ⟨Nat.le_of_ble_eq_true rfl, Nat.le_of_ble_eq_true rfl⟩ ⟨Nat.le_refl _, Nat.le_refl _⟩ (rest := []) rfl (Nat.le_of_ble_eq_true rfl) dX7_restore_1 (fun H locs hJ => ?_)
  refine lv_if_ne (tgt := 10) hx hb dX7_restore_4 (by decide) (fun c_4 => ?_) (fun c_4 => ?_)
  · skip
    have hx2 := (isSlot_of c_4).2
    have hl : lv_has ls 2 [(0, .ref (B + 459)), (1, .int (nI (nn x)))] := by rw [← show x = nI (nn x) from (isSlot_of c_4).1]; exact hl
    refine lv_aload_n hx hb dX7_restore_10 rfl (lv_at hl 0 rfl) ?_
    refine gX7_13 X hJ (w := g.2.2.2) rfl dX7_restore_11 ?_
    refine lv_iload_n hx hb dX7_restore_14 rfl (lv_at hl 1 rfl) ?_
    refine ld_isSaved X hJ (w := g.2.2.2) rfl (j := nn x) (rfl) (by omega) dX7_restore_15 ?_
    refine lv_if_ne (tgt := 22) hx hb dX7_restore_16 (by decide) (fun c_16 => ?_) (fun c_16 => ?_)
    · skip
      refine lv_aload_n hx hb dX7_restore_22 rfl (lv_at hl 0 rfl) ?_
      refine kX7_117 X hJ (mX7_changes l E B g (hgm)) rfl (by omega) (at_M rfl) hl.1 ⟨Nat.le_of_ble_eq_true rfl, Nat.le_of_ble_eq_true rfl⟩ ⟨Nat.le_refl _, Nat.le_refl _⟩ (rest := []) rfl (Nat.le_of_ble_eq_true rfl) dX7_restore_23 (fun H locs hJ => ?_)
      refine lv_aload_n hx hb dX7_restore_26 rfl (lv_at hl 0 rfl) ?_
      refine lv_bipush (v := 7) hx hb dX7_restore_27 (by decide) ?_
      refine lv_iload_n hx hb dX7_restore_29 rfl (lv_at hl 1 rfl) ?_
      refine xiadd (z := nI (7 + (nn x))) hx hb dX7_restore_30 (nI_add 7 (nn x)) ?_
      refine lv_iconst (v := 0) hx hb dX7_restore_31 (by decide) ?_
      refine kX7_27 X hJ (nX7_copies l E B (sX7_changes g) (7 + (nn x)) 0 (by omega) (by omega) (by omega)) rfl (by omega) (at_M rfl) hl.1 ⟨Nat.le_of_ble_eq_true rfl, Nat.le_of_ble_eq_true rfl⟩ ⟨Nat.le_refl _, Nat.le_refl _⟩ (rest := []) rfl (Nat.le_of_ble_eq_true rfl) dX7_restore_32 (fun H locs hJ => ?_)
      refine lv_aload_n hx hb dX7_restore_35 rfl (lv_at hl 0 rfl) ?_
      refine gX7_7 X hJ (w := (upS (sX7_changes g) 0 ((sX7_changes g).2.2.1 (7 + (nn x)))).2.2.2) rfl dX7_restore_36 ?_
      refine lv_bipush (v := 6) hx hb dX7_restore_39 (by decide) ?_
      refine ld_s X hJ (t := 0) (w := (upS (sX7_changes g) 0 ((sX7_changes g).2.2.1 (7 + (nn x)))).2.2.1 0) (by omega) rfl (j := 6) (by decide) (by omega) dX7_restore_41 ?_
      have hs : sX7_restore g x = (((upS (sX7_changes g) 0 ((sX7_changes g).2.2.1 (7 + (nn x)))).2.2.1 0) (6), upS (sX7_changes g) 0 ((sX7_changes g).2.2.1 (7 + (nn x)))) := by unfold sX7_restore; rw [if_neg c_4, if_neg c_16]
      exact fin (by rw [hs]; dsimp only; exact hJ) (by rw [hs]) dX7_restore_42
    · skip
      refine lv_bipush (v := (-5)) hx hb dX7_restore_19 (by decide) ?_
      have hs : sX7_restore g x = ((-5), g) := by unfold sX7_restore; rw [if_neg c_4, if_pos c_16]
      exact fin (by rw [hs]; dsimp only; exact hJ) (by rw [hs]) dX7_restore_21
  · skip
    refine lv_bipush (v := (-2)) hx hb dX7_restore_7 (by decide) ?_
    have hs : sX7_restore g x = ((-2), g) := by unfold sX7_restore; rw [if_pos c_4]
    exact fin (by rw [hs]; dsimp only; exact hJ) (by rw [hs]) dX7_restore_9

def sX7_orderError (g : GS) : Int32 := if g.2.2.2 3 = 98 then (sX7_bridgeError (g.2.2.1 0) (g.2.2.2 4) (g.2.2.2 5) (g.2.2.2 6)) else if g.2.2.2 3 = 99 then (sX7_cartError (g.2.2.1 0) (g.2.2.2 4) (g.2.2.2 6)) else if g.2.2.2 3 = 103 then (sX7_guessError (g.2.2.1 0) (g.2.2.2 4) (g.2.2.2 5) (g.2.2.2 6)) else if g.2.2.2 3 = 104 then (sX7_hintError (g.2.2.1 0) (g.2.2.2 4) (g.2.2.2 5)) else if g.2.2.2 3 = 108 then (sX7_leaveError (g.2.2.1 0) (g.2.2.2 4)) else (sX7_passError (g.2.2.1 0) (g.2.2.2 6))
set_option maxHeartbeats 4000000 in
set_option maxRecDepth 100000 in
theorem mX7_orderError (l : Launch) (E : EE) (B : Nat) (g : GS)  (hgm : Gm g) : CG l yX7_orderError cX7_orderError 1 (some .int) 3 70 E B [.ref (B + 459)] g (some (.int (sX7_orderError g))) g := by
  refine mkI (own := RX7) (ty := .int) rfl (by decide) rfl (rfl) (Nat.le_of_ble_eq_true rfl) (fun P_ e_ s_ m_ a_ below meth cd Q X fin ls hl hJ => ?_)
  have hx := X.1
  have hb := X.2.1
  have hl : lv_has ls 1 [(0, .ref (B + 459))] := hl
  refine lv_aload_n hx hb dX7_orderError_0 rfl (lv_at hl 0 rfl) ?_
  refine gX7_222 X hJ (w := g.2.2.2) rfl dX7_orderError_1 ?_
  by_cases c_4_98 : g.2.2.2 3 = 98
  · rw [c_4_98]
    refine lv_tableIn (tgt := 64) hx hb dX7_orderError_4 (by decide) (by decide) (off := 60) (by decide) (by decide) ?_
    refine lv_aload_n hx hb dX7_orderError_64 rfl (lv_at hl 0 rfl) ?_
    refine lv_aload_n hx hb dX7_orderError_65 rfl (lv_at hl 0 rfl) ?_
    refine gX7_210 X hJ (w := g.2.2.2) rfl dX7_orderError_66 ?_
    refine lv_aload_n hx hb dX7_orderError_69 rfl (lv_at hl 0 rfl) ?_
    refine gX7_216 X hJ (w := g.2.2.2) rfl dX7_orderError_70 ?_
    refine lv_aload_n hx hb dX7_orderError_73 rfl (lv_at hl 0 rfl) ?_
    refine gX7_219 X hJ (w := g.2.2.2) rfl dX7_orderError_74 ?_
    refine kX7_120 X hJ (mX7_bridgeError l E B _ (g.2.2.2 4) (g.2.2.2 5) (g.2.2.2 6) (g.2.2.1 0) rfl) rfl (by omega) (at_M rfl) hl.1 ⟨Nat.le_of_ble_eq_true rfl, Nat.le_of_ble_eq_true rfl⟩ ⟨Nat.le_refl _, Nat.le_refl _⟩ (rest := []) rfl (Nat.le_of_ble_eq_true rfl) dX7_orderError_77 (fun H locs hJ => ?_)
    have hs : sX7_orderError g = sX7_bridgeError (g.2.2.1 0) (g.2.2.2 4) (g.2.2.2 5) (g.2.2.2 6) := by unfold sX7_orderError; rw [if_pos c_4_98]
    exact fin hJ (by rw [hs]) dX7_orderError_80
  by_cases c_4_99 : g.2.2.2 3 = 99
  · rw [c_4_99]
    refine lv_tableIn (tgt := 81) hx hb dX7_orderError_4 (by decide) (by decide) (off := 77) (by decide) (by decide) ?_
    refine lv_aload_n hx hb dX7_orderError_81 rfl (lv_at hl 0 rfl) ?_
    refine lv_aload_n hx hb dX7_orderError_82 rfl (lv_at hl 0 rfl) ?_
    refine gX7_210 X hJ (w := g.2.2.2) rfl dX7_orderError_83 ?_
    refine lv_aload_n hx hb dX7_orderError_86 rfl (lv_at hl 0 rfl) ?_
    refine gX7_219 X hJ (w := g.2.2.2) rfl dX7_orderError_87 ?_
    refine kX7_126 X hJ (mX7_cartError l E B _ (g.2.2.2 4) (g.2.2.2 6) (g.2.2.1 0) rfl) rfl (by omega) (at_M rfl) hl.1 ⟨Nat.le_of_ble_eq_true rfl, Nat.le_of_ble_eq_true rfl⟩ ⟨Nat.le_refl _, Nat.le_refl _⟩ (rest := []) rfl (Nat.le_of_ble_eq_true rfl) dX7_orderError_90 (fun H locs hJ => ?_)
    have hs : sX7_orderError g = sX7_cartError (g.2.2.1 0) (g.2.2.2 4) (g.2.2.2 6) := by unfold sX7_orderError; rw [if_neg c_4_98, if_pos c_4_99]
    exact fin hJ (by rw [hs]) dX7_orderError_93
  by_cases c_4_103 : g.2.2.2 3 = 103
  · rw [c_4_103]
    refine lv_tableIn (tgt := 94) hx hb dX7_orderError_4 (by decide) (by decide) (off := 90) (by decide) (by decide) ?_
    refine lv_aload_n hx hb dX7_orderError_94 rfl (lv_at hl 0 rfl) ?_
    refine lv_aload_n hx hb dX7_orderError_95 rfl (lv_at hl 0 rfl) ?_
    refine gX7_210 X hJ (w := g.2.2.2) rfl dX7_orderError_96 ?_
    refine lv_aload_n hx hb dX7_orderError_99 rfl (lv_at hl 0 rfl) ?_
    refine gX7_216 X hJ (w := g.2.2.2) rfl dX7_orderError_100 ?_
    refine lv_aload_n hx hb dX7_orderError_103 rfl (lv_at hl 0 rfl) ?_
    refine gX7_219 X hJ (w := g.2.2.2) rfl dX7_orderError_104 ?_
    refine kX7_132 X hJ (mX7_guessError l E B _ (g.2.2.2 4) (g.2.2.2 5) (g.2.2.2 6) (g.2.2.1 0) rfl ((hgm).1 0 (by omega))) rfl (by omega) (at_M rfl) hl.1 ⟨Nat.le_of_ble_eq_true rfl, Nat.le_of_ble_eq_true rfl⟩ ⟨Nat.le_refl _, Nat.le_refl _⟩ (rest := []) rfl (Nat.le_of_ble_eq_true rfl) dX7_orderError_107 (fun H locs hJ => ?_)
    have hs : sX7_orderError g = sX7_guessError (g.2.2.1 0) (g.2.2.2 4) (g.2.2.2 5) (g.2.2.2 6) := by unfold sX7_orderError; rw [if_neg c_4_98, if_neg c_4_99, if_pos c_4_103]
    exact fin hJ (by rw [hs]) dX7_orderError_110
  by_cases c_4_104 : g.2.2.2 3 = 104
  · rw [c_4_104]
    refine lv_tableIn (tgt := 111) hx hb dX7_orderError_4 (by decide) (by decide) (off := 107) (by decide) (by decide) ?_
    refine lv_aload_n hx hb dX7_orderError_111 rfl (lv_at hl 0 rfl) ?_
    refine lv_aload_n hx hb dX7_orderError_112 rfl (lv_at hl 0 rfl) ?_
    refine gX7_210 X hJ (w := g.2.2.2) rfl dX7_orderError_113 ?_
    refine lv_aload_n hx hb dX7_orderError_116 rfl (lv_at hl 0 rfl) ?_
    refine gX7_216 X hJ (w := g.2.2.2) rfl dX7_orderError_117 ?_
    refine kX7_144 X hJ (mX7_hintError l E B _ (g.2.2.2 4) (g.2.2.2 5) (g.2.2.1 0) rfl ((hgm).1 0 (by omega))) rfl (by omega) (at_M rfl) hl.1 ⟨Nat.le_of_ble_eq_true rfl, Nat.le_of_ble_eq_true rfl⟩ ⟨Nat.le_refl _, Nat.le_refl _⟩ (rest := []) rfl (Nat.le_of_ble_eq_true rfl) dX7_orderError_120 (fun H locs hJ => ?_)
    have hs : sX7_orderError g = sX7_hintError (g.2.2.1 0) (g.2.2.2 4) (g.2.2.2 5) := by unfold sX7_orderError; rw [if_neg c_4_98, if_neg c_4_99, if_neg c_4_103, if_pos c_4_104]
    exact fin hJ (by rw [hs]) dX7_orderError_123
  by_cases c_4_108 : g.2.2.2 3 = 108
  · rw [c_4_108]
    refine lv_tableIn (tgt := 124) hx hb dX7_orderError_4 (by decide) (by decide) (off := 120) (by decide) (by decide) ?_
    refine lv_aload_n hx hb dX7_orderError_124 rfl (lv_at hl 0 rfl) ?_
    refine lv_aload_n hx hb dX7_orderError_125 rfl (lv_at hl 0 rfl) ?_
    refine gX7_210 X hJ (w := g.2.2.2) rfl dX7_orderError_126 ?_
    refine kX7_138 X hJ (mX7_leaveError l E B _ (g.2.2.2 4) (g.2.2.1 0) rfl ((hgm).1 0 (by omega))) rfl (by omega) (at_M rfl) hl.1 ⟨Nat.le_of_ble_eq_true rfl, Nat.le_of_ble_eq_true rfl⟩ ⟨Nat.le_refl _, Nat.le_refl _⟩ (rest := []) rfl (Nat.le_of_ble_eq_true rfl) dX7_orderError_129 (fun H locs hJ => ?_)
    have hs : sX7_orderError g = sX7_leaveError (g.2.2.1 0) (g.2.2.2 4) := by unfold sX7_orderError; rw [if_neg c_4_98, if_neg c_4_99, if_neg c_4_103, if_neg c_4_104, if_pos c_4_108]
    exact fin hJ (by rw [hs]) dX7_orderError_132
  refine rtabOut (tgt := 133) hx hb dX7_orderError_4 (by decide) (fun h1 h2 => ?_) ?_
  · have e98 := ne_toInt (n := 98) c_4_98 (by decide); have e99 := ne_toInt (n := 99) c_4_99 (by decide); have e103 := ne_toInt (n := 103) c_4_103 (by decide); have e104 := ne_toInt (n := 104) c_4_104 (by decide); have e108 := ne_toInt (n := 108) c_4_108 (by decide)
    rcases (show (g.2.2.2 3 : Int32).toInt = 100 ∨ (g.2.2.2 3 : Int32).toInt = 101 ∨ (g.2.2.2 3 : Int32).toInt = 102 ∨ (g.2.2.2 3 : Int32).toInt = 105 ∨ (g.2.2.2 3 : Int32).toInt = 106 ∨ (g.2.2.2 3 : Int32).toInt = 107 by omega) with hq | hq | hq | hq | hq | hq <;> (rw [hq]; decide)
  refine lv_aload_n hx hb dX7_orderError_133 rfl (lv_at hl 0 rfl) ?_
  refine lv_aload_n hx hb dX7_orderError_134 rfl (lv_at hl 0 rfl) ?_
  refine gX7_219 X hJ (w := g.2.2.2) rfl dX7_orderError_135 ?_
  refine kX7_150 X hJ (mX7_passError l E B _ (g.2.2.2 6) (g.2.2.1 0) rfl) rfl (by omega) (at_M rfl) hl.1 ⟨Nat.le_of_ble_eq_true rfl, Nat.le_of_ble_eq_true rfl⟩ ⟨Nat.le_refl _, Nat.le_refl _⟩ (rest := []) rfl (Nat.le_of_ble_eq_true rfl) dX7_orderError_138 (fun H locs hJ => ?_)
  have hs : sX7_orderError g = sX7_passError (g.2.2.1 0) (g.2.2.2 6) := by unfold sX7_orderError; rw [if_neg c_4_98, if_neg c_4_99, if_neg c_4_103, if_neg c_4_104, if_neg c_4_108]
  exact fin hJ (by rw [hs]) dX7_orderError_141

