theorem ch0 {g : GS} : (sX7_changes g).2.2.1 0 = g.2.2.1 0 := by
  unfold sX7_changes
  by_cases c : g.2.2.2 0 = 6
  · rw [if_pos c]; rfl
  · rw [if_neg c, upS_ne (by omega)]; rfl
theorem Gm_changes {g : GS} (h : Gm g) : Gm (sX7_changes g) := by
  unfold sX7_changes
  by_cases c : g.2.2.2 0 = 6
  · rw [if_pos c]
    have h1 := Gm_upS (t := 1) h (h.1 2 (by omega))
    have h2 := Gm_upS (t := 2) h1 (h1.1 3 (by omega))
    have h3 := Gm_upS (t := 3) h2 (h2.1 4 (by omega))
    have h4 := Gm_upS (t := 4) h3 (h3.1 5 (by omega))
    have h5 := Gm_upS (t := 5) h4 (h4.1 6 (by omega))
    have e5 : sm (g.2.2.2 0 - 1) 6 := by rw [c]; exact ⟨by decide, by decide⟩
    have e6 : sm (g.2.2.2 0 - 1 + 1) 6 := by rw [c]; exact ⟨by decide, by decide⟩
    have h6 := Gm_upR (r := upd g.2.2.2 0 (g.2.2.2 0 - 1)) h5 ⟨h.2.1, e5⟩
    have h7 := Gm_upR (r := upd (upd g.2.2.2 0 (g.2.2.2 0 - 1)) 0 (g.2.2.2 0 - 1 + 1)) h6 ⟨h.2.1, e6⟩
    exact Gm_upS h7 (h7.1 0 (by omega))
  · rw [if_neg c]
    have h6 := nn6 h.2.2 c
    have e6 : sm (g.2.2.2 0 + 1) 6 := by rw [h.2.2.eq, nI_1]; exact sm_nI (by omega) (by omega)
    have h7 := Gm_upR (r := upd g.2.2.2 0 (g.2.2.2 0 + 1)) h ⟨h.2.1, e6⟩
    exact Gm_upS h7 (h7.1 0 (by omega))
theorem bE0 {w : Row} {x y z : Int32} (hcn : Cn w) (h : sX7_bridgeError w x y z = 0) : nn (w 5) < 12 ∧ ¬ z = 0 ∧ (2 ≤ z.toInt ∧ z.toInt ≤ 1000) ∧ (0 ≤ x.toInt ∧ x.toInt ≤ 7) ∧ (0 ≤ y.toInt ∧ y.toInt ≤ 7) ∧ ¬ x = y := by
  unfold sX7_bridgeError at h
  by_cases h1 : sX7_isTown x = 0
  · rw [if_pos h1] at h; exact absurd h (by decide)
  rw [if_neg h1] at h
  by_cases h2 : sX7_isTown y = 0
  · rw [if_pos h2] at h; exact absurd h (by decide)
  rw [if_neg h2] at h
  by_cases h3 : x = y
  · rw [if_pos h3] at h; exact absurd h (by decide)
  rw [if_neg h3] at h
  by_cases h4 : sX7_in z.toInt64 2 1000 = 0
  · rw [if_pos h4] at h; exact absurd h (by decide)
  rw [if_neg h4] at h
  by_cases h5 : w (5) = 12
  · rw [if_pos h5] at h; exact absurd h (by decide)
  have a := (in_32 (x := z) (y := 2) (z := 1000)).mp h4
  have b := (in_32 (x := x) (y := 0) (z := 7)).mp h1
  have c := (in_32 (x := y) (y := 0) (z := 7)).mp h2
  have e2 : (2 : Int64).toInt = 2 := by decide
  have e1000 : (1000 : Int64).toInt = 1000 := by decide
  have e0 : (0 : Int64).toInt = 0 := by decide
  have e7 : (7 : Int64).toInt = 7 := by decide
  rw [e2, e1000] at a
  rw [e0, e7] at b c
  refine ⟨?_, fun q => ?_, a, b, c, h3⟩
  · have := hcn.2.1.le
    rcases Nat.lt_or_ge (nn (w 5)) 12 with q | q
    · exact q
    · exact absurd (hcn.2.1.eq.trans (by rw [show nn (w 5) = 12 from by omega]; rfl)) h5
  · rw [q] at a; exact absurd a.1 (by decide)
theorem cE0 {w : Row} {x y : Int32} (hcn : Cn w) (h : sX7_cartError w x y = 0) : nn (w 6) < 8 ∧ (0 ≤ x.toInt ∧ x.toInt ≤ 7) ∧ (0 ≤ y.toInt ∧ y.toInt ≤ 9999) := by
  unfold sX7_cartError at h
  by_cases h1 : sX7_isTown x = 0
  · rw [if_pos h1] at h; exact absurd h (by decide)
  rw [if_neg h1] at h
  by_cases h4 : sX7_in y.toInt64 0 9999 = 0
  · rw [if_pos h4] at h; exact absurd h (by decide)
  rw [if_neg h4] at h
  by_cases h5 : w (6) = 8
  · rw [if_pos h5] at h; exact absurd h (by decide)
  have a := (in_32 (x := y) (y := 0) (z := 9999)).mp h4
  have b := (in_32 (x := x) (y := 0) (z := 7)).mp h1
  have e9 : (9999 : Int64).toInt = 9999 := by decide
  have e0 : (0 : Int64).toInt = 0 := by decide
  have e7 : (7 : Int64).toInt = 7 := by decide
  rw [e0, e9] at a
  rw [e0, e7] at b
  refine ⟨?_, b, a⟩
  have := hcn.2.2.le
  rcases Nat.lt_or_ge (nn (w 6)) 8 with q | q
  · exact q
  · exact absurd (hcn.2.2.eq.trans (by rw [show nn (w 6) = 8 from by omega]; rfl)) h5
theorem lE0 {w : Row} {x : Int32} (h : sX7_leaveError w x = 0) : ¬ sX7_isCart w x = 0 ∧ ¬ w (104 + 8 * (nn x) + 2) = -6 := by
  unfold sX7_leaveError at h
  by_cases h1 : sX7_isCart w x = 0
  · rw [if_pos h1] at h; exact absurd h (by decide)
  rw [if_neg h1] at h
  by_cases h2 : w (104 + 8 * (nn x) + 2) = (-6)
  · rw [if_pos h2] at h; exact absurd h (by decide)
  exact ⟨h1, h2⟩
theorem hE0 {w : Row} {x y : Int32} (h : sX7_hintError w x y = 0) : ¬ sX7_isCart w x = 0 ∧ ¬ sX7_isBridge w y = 0 := by
  unfold sX7_hintError at h
  by_cases h1 : sX7_isCart w x = 0
  · rw [if_pos h1] at h; exact absurd h (by decide)
  rw [if_neg h1] at h
  by_cases h2 : sX7_isBridge w y = 0
  · rw [if_pos h2] at h; exact absurd h (by decide)
  exact ⟨h1, h2⟩
theorem pE0 {w : Row} {x : Int32} (h : sX7_passError w x = 0) : sm x 99 ∧ 1 ≤ x.toInt := by
  unfold sX7_passError at h
  by_cases h1 : sX7_in x.toInt64 1 99 = 0
  · rw [if_pos h1] at h; exact absurd h (by decide)
  have a := (in_32 (x := x) (y := 1) (z := 99)).mp h1
  have e9 : (99 : Int64).toInt = 99 := by decide
  have e0 : (1 : Int64).toInt = 1 := by decide
  rw [e0, e9] at a
  exact ⟨⟨by omega, by omega⟩, a.1⟩
def sX7_set (g : GS) (x : Int32) (y : Int32) : Int32 × GS := if sX7_isValue x y = 0 then (((-2), g)) else ((((sX7_changes g).2.2.1 0) (nn x), upS (sX7_changes g) 0 (upd ((sX7_changes g).2.2.1 0) (nn x) y)))
set_option maxHeartbeats 4000000 in
set_option maxRecDepth 100000 in
theorem mX7_set (l : Launch) (E : EE) (B : Nat) (g : GS) (x : Int32) (y : Int32) (hgm : Gm g) : CG l yX7_set cX7_set 4 (some .int) 2 46 E B [.ref (B + 459), .int x, .int y] g (some (.int (sX7_set g x y).1)) ((sX7_set g x y).2) := by
  refine mkI (own := RX7) (ty := .int) rfl (by decide) rfl (rfl) (Nat.le_of_ble_eq_true rfl) (fun P_ e_ s_ m_ a_ below meth cd Q X fin ls hl hJ => ?_)
  have hx := X.1
  have hb := X.2.1
  have hl : lv_has ls 4 [(0, .ref (B + 459)), (1, .int x), (2, .int y)] := hl
  refine lv_iload_n hx hb dX7_set_0 rfl (lv_at hl 1 rfl) ?_
  refine lv_iload_n hx hb dX7_set_1 rfl (lv_at hl 2 rfl) ?_
  refine kX7_114 X hJ (mX7_isValue l E B _ x y) rfl hl.1 ⟨Nat.le_of_ble_eq_true rfl, Nat.le_of_ble_eq_true rfl⟩ ⟨Nat.le_refl _, Nat.le_refl _⟩ (rest := []) rfl (Nat.le_of_ble_eq_true rfl) dX7_set_2 (fun H locs hJ => ?_)
  refine lv_if_ne (tgt := 11) hx hb dX7_set_5 (by decide) (fun c_5 => ?_) (fun c_5 => ?_)
  · skip
    refine lv_aload_n hx hb dX7_set_11 rfl (lv_at hl 0 rfl) ?_
    refine kX7_117 X hJ (mX7_changes l E B g (hgm)) rfl (by omega) (at_M rfl) hl.1 ⟨Nat.le_of_ble_eq_true rfl, Nat.le_of_ble_eq_true rfl⟩ ⟨Nat.le_refl _, Nat.le_refl _⟩ (rest := []) rfl (Nat.le_of_ble_eq_true rfl) dX7_set_12 (fun H locs hJ => ?_)
    have hx4 := (isValue_of c_5).2
    have hl : lv_has ls 4 [(0, .ref (B + 459)), (1, .int (nI (nn x))), (2, .int y)] := by rw [← show x = nI (nn x) from (isValue_of c_5).1]; exact hl
    refine lv_aload_n hx hb dX7_set_15 rfl (lv_at hl 0 rfl) ?_
    refine gX7_7 X hJ (w := (sX7_changes g).2.2.2) rfl dX7_set_16 ?_
    refine lv_iload_n hx hb dX7_set_19 rfl (lv_at hl 1 rfl) ?_
    refine ld_s X hJ (t := 0) (w := (sX7_changes g).2.2.1 0) (by omega) rfl (j := nn x) (congrArg nI (by omega)) (by omega) dX7_set_20 ?_
    refine lv_istore_n (lv' := [(3, .int (((sX7_changes g).2.2.1 0) (nn x))), (0, .ref (B + 459)), (1, .int (nI (nn x))), (2, .int y)]) hx hb dX7_set_21 rfl hl (by decide) rfl (fun ls hl => ?_)
    refine lv_aload_n hx hb dX7_set_22 rfl (lv_at hl 1 rfl) ?_
    refine gX7_7 X hJ (w := (sX7_changes g).2.2.2) rfl dX7_set_23 ?_
    refine lv_iload_n hx hb dX7_set_26 rfl (lv_at hl 2 rfl) ?_
    refine lv_iload_n hx hb dX7_set_27 rfl (lv_at hl 3 rfl) ?_
    rw [← upS_self (g := (sX7_changes g)) (k := 0)] at hJ
    refine st_s X (t := 0) hJ (by omega) (j := nn x) (congrArg nI (by omega)) (by omega) dX7_set_28 (fun H locs hJ => ?_)
    refine lv_iload_n hx hb dX7_set_29 rfl (lv_at hl 0 rfl) ?_
    have hs : sX7_set g x y = (((sX7_changes g).2.2.1 0) (nn x), upS (sX7_changes g) 0 (upd ((sX7_changes g).2.2.1 0) (nn x) y)) := by unfold sX7_set; rw [if_neg c_5]
    exact fin (by rw [hs]; dsimp only; exact hJ) (by rw [hs]) dX7_set_30
  · skip
    refine lv_bipush (v := (-2)) hx hb dX7_set_8 (by decide) ?_
    have hs : sX7_set g x y = ((-2), g) := by unfold sX7_set; rw [if_pos c_5]
    exact fin (by rw [hs]; dsimp only; exact hJ) (by rw [hs]) dX7_set_10

def sX7_bridge (g : GS) (x : Int32) (y : Int32) (z : Int32) : Int32 × GS := if sX7_bridgeError (g.2.2.1 0) x y z = 0 then (((sX7_builds ((sX7_changes g).2.2.1 0) x y z).1, upS (sX7_changes g) 0 (sX7_builds ((sX7_changes g).2.2.1 0) x y z).2)) else ((sX7_bridgeError (g.2.2.1 0) x y z, g))
set_option maxHeartbeats 4000000 in
set_option maxRecDepth 100000 in
theorem mX7_bridge (l : Launch) (E : EE) (B : Nat) (g : GS) (x : Int32) (y : Int32) (z : Int32) (hgm : Gm g) : CG l yX7_bridge cX7_bridge 5 (some .int) 3 72 E B [.ref (B + 459), .int x, .int y, .int z] g (some (.int (sX7_bridge g x y z).1)) ((sX7_bridge g x y z).2) := by
  refine mkI (own := RX7) (ty := .int) rfl (by decide) rfl (rfl) (Nat.le_of_ble_eq_true rfl) (fun P_ e_ s_ m_ a_ below meth cd Q X fin ls hl hJ => ?_)
  have hx := X.1
  have hb := X.2.1
  have hl : lv_has ls 5 [(0, .ref (B + 459)), (1, .int x), (2, .int y), (3, .int z)] := hl
  refine lv_aload_n hx hb dX7_bridge_0 rfl (lv_at hl 0 rfl) ?_
  refine lv_iload_n hx hb dX7_bridge_1 rfl (lv_at hl 1 rfl) ?_
  refine lv_iload_n hx hb dX7_bridge_2 rfl (lv_at hl 2 rfl) ?_
  refine lv_iload_n hx hb dX7_bridge_3 rfl (lv_at hl 3 rfl) ?_
  refine kX7_120 X hJ (mX7_bridgeError l E B _ x y z (g.2.2.1 0) rfl) rfl (by omega) (at_M rfl) hl.1 ⟨Nat.le_of_ble_eq_true rfl, Nat.le_of_ble_eq_true rfl⟩ ⟨Nat.le_refl _, Nat.le_refl _⟩ (rest := []) rfl (Nat.le_of_ble_eq_true rfl) dX7_bridge_4 (fun H locs hJ => ?_)
  refine lv_istore (lv' := [(4, .int (sX7_bridgeError (g.2.2.1 0) x y z)), (0, .ref (B + 459)), (1, .int x), (2, .int y), (3, .int z)]) hx hb dX7_bridge_7 hl (by decide) rfl (fun ls hl => ?_)
  refine lv_iload hx hb dX7_bridge_9 (lv_at hl 0 rfl) ?_
  refine lv_if_eq (tgt := 17) hx hb dX7_bridge_11 (by decide) (fun c_11 => ?_) (fun c_11 => ?_)
  · skip
    refine lv_aload_n hx hb dX7_bridge_17 rfl (lv_at hl 1 rfl) ?_
    refine kX7_117 X hJ (mX7_changes l E B g (hgm)) rfl (by omega) (at_M rfl) hl.1 ⟨Nat.le_of_ble_eq_true rfl, Nat.le_of_ble_eq_true rfl⟩ ⟨Nat.le_refl _, Nat.le_refl _⟩ (rest := []) rfl (Nat.le_of_ble_eq_true rfl) dX7_bridge_18 (fun H locs hJ => ?_)
    refine lv_aload_n hx hb dX7_bridge_21 rfl (lv_at hl 1 rfl) ?_
    refine lv_iload_n hx hb dX7_bridge_22 rfl (lv_at hl 2 rfl) ?_
    refine lv_iload_n hx hb dX7_bridge_23 rfl (lv_at hl 3 rfl) ?_
    refine lv_iload_n hx hb dX7_bridge_24 rfl (lv_at hl 4 rfl) ?_
    refine kX7_123 X hJ (by have h := mX7_builds l E B (sX7_changes g) x y z ((sX7_changes g).2.2.1 0) ((Gm_changes (hgm)).1 0 (by omega)) (by rw [ch0]; exact (bE0 (hgm.1 0 (by omega)).1 c_11).1) ((bE0 (hgm.1 0 (by omega)).1 c_11).2.1); rw [upS_self] at h; exact h) rfl (by omega) (at_M rfl) hl.1 ⟨Nat.le_of_ble_eq_true rfl, Nat.le_of_ble_eq_true rfl⟩ ⟨Nat.le_refl _, Nat.le_refl _⟩ (rest := []) rfl (Nat.le_of_ble_eq_true rfl) dX7_bridge_25 (fun H locs hJ => ?_)
    have hs : sX7_bridge g x y z = ((sX7_builds ((sX7_changes g).2.2.1 0) x y z).1, upS (sX7_changes g) 0 (sX7_builds ((sX7_changes g).2.2.1 0) x y z).2) := by unfold sX7_bridge; rw [if_pos c_11]
    exact fin (by rw [hs]; dsimp only; exact hJ) (by rw [hs]) dX7_bridge_28
  · skip
    refine lv_iload hx hb dX7_bridge_14 (lv_at hl 0 rfl) ?_
    have hs : sX7_bridge g x y z = (sX7_bridgeError (g.2.2.1 0) x y z, g) := by unfold sX7_bridge; rw [if_neg c_11]
    exact fin (by rw [hs]; dsimp only; exact hJ) (by rw [hs]) dX7_bridge_16

def sX7_cart (g : GS) (x : Int32) (y : Int32) : Int32 × GS := if sX7_cartError (g.2.2.1 0) x y = 0 then (((sX7_comes ((sX7_changes g).2.2.1 0) x y).1, upS (sX7_changes g) 0 (sX7_comes ((sX7_changes g).2.2.1 0) x y).2)) else ((sX7_cartError (g.2.2.1 0) x y, g))
set_option maxHeartbeats 4000000 in
set_option maxRecDepth 100000 in
theorem mX7_cart (l : Launch) (E : EE) (B : Nat) (g : GS) (x : Int32) (y : Int32) (hgm : Gm g) : CG l yX7_cart cX7_cart 4 (some .int) 3 67 E B [.ref (B + 459), .int x, .int y] g (some (.int (sX7_cart g x y).1)) ((sX7_cart g x y).2) := by
  refine mkI (own := RX7) (ty := .int) rfl (by decide) rfl (rfl) (Nat.le_of_ble_eq_true rfl) (fun P_ e_ s_ m_ a_ below meth cd Q X fin ls hl hJ => ?_)
  have hx := X.1
  have hb := X.2.1
  have hl : lv_has ls 4 [(0, .ref (B + 459)), (1, .int x), (2, .int y)] := hl
  refine lv_aload_n hx hb dX7_cart_0 rfl (lv_at hl 0 rfl) ?_
  refine lv_iload_n hx hb dX7_cart_1 rfl (lv_at hl 1 rfl) ?_
  refine lv_iload_n hx hb dX7_cart_2 rfl (lv_at hl 2 rfl) ?_
  refine kX7_126 X hJ (mX7_cartError l E B _ x y (g.2.2.1 0) rfl) rfl (by omega) (at_M rfl) hl.1 ⟨Nat.le_of_ble_eq_true rfl, Nat.le_of_ble_eq_true rfl⟩ ⟨Nat.le_refl _, Nat.le_refl _⟩ (rest := []) rfl (Nat.le_of_ble_eq_true rfl) dX7_cart_3 (fun H locs hJ => ?_)
  refine lv_istore_n (lv' := [(3, .int (sX7_cartError (g.2.2.1 0) x y)), (0, .ref (B + 459)), (1, .int x), (2, .int y)]) hx hb dX7_cart_6 rfl hl (by decide) rfl (fun ls hl => ?_)
  refine lv_iload_n hx hb dX7_cart_7 rfl (lv_at hl 0 rfl) ?_
  refine lv_if_eq (tgt := 13) hx hb dX7_cart_8 (by decide) (fun c_8 => ?_) (fun c_8 => ?_)
  · skip
    refine lv_aload_n hx hb dX7_cart_13 rfl (lv_at hl 1 rfl) ?_
    refine kX7_117 X hJ (mX7_changes l E B g (hgm)) rfl (by omega) (at_M rfl) hl.1 ⟨Nat.le_of_ble_eq_true rfl, Nat.le_of_ble_eq_true rfl⟩ ⟨Nat.le_refl _, Nat.le_refl _⟩ (rest := []) rfl (Nat.le_of_ble_eq_true rfl) dX7_cart_14 (fun H locs hJ => ?_)
    refine lv_aload_n hx hb dX7_cart_17 rfl (lv_at hl 1 rfl) ?_
    refine lv_iload_n hx hb dX7_cart_18 rfl (lv_at hl 2 rfl) ?_
    refine lv_iload_n hx hb dX7_cart_19 rfl (lv_at hl 3 rfl) ?_
    refine kX7_129 X hJ (by have h := mX7_comes l E B (sX7_changes g) x y ((sX7_changes g).2.2.1 0) ((Gm_changes (hgm)).1 0 (by omega)) (by rw [ch0]; exact (cE0 (hgm.1 0 (by omega)).1 c_8).1); rw [upS_self] at h; exact h) rfl (by omega) (at_M rfl) hl.1 ⟨Nat.le_of_ble_eq_true rfl, Nat.le_of_ble_eq_true rfl⟩ ⟨Nat.le_refl _, Nat.le_refl _⟩ (rest := []) rfl (Nat.le_of_ble_eq_true rfl) dX7_cart_20 (fun H locs hJ => ?_)
    have hs : sX7_cart g x y = ((sX7_comes ((sX7_changes g).2.2.1 0) x y).1, upS (sX7_changes g) 0 (sX7_comes ((sX7_changes g).2.2.1 0) x y).2) := by unfold sX7_cart; rw [if_pos c_8]
    exact fin (by rw [hs]; dsimp only; exact hJ) (by rw [hs]) dX7_cart_23
  · skip
    refine lv_iload_n hx hb dX7_cart_11 rfl (lv_at hl 0 rfl) ?_
    have hs : sX7_cart g x y = (sX7_cartError (g.2.2.1 0) x y, g) := by unfold sX7_cart; rw [if_neg c_8]
    exact fin (by rw [hs]; dsimp only; exact hJ) (by rw [hs]) dX7_cart_12

def sX7_leave (g : GS) (x : Int32) : Int32 × GS := if sX7_leaveError (g.2.2.1 0) x = 0 then (((sX7_leaves ((sX7_changes g).2.2.1 0) (nn x)).1, upS (sX7_changes g) 0 (sX7_leaves ((sX7_changes g).2.2.1 0) (nn x)).2)) else ((sX7_leaveError (g.2.2.1 0) x, g))
set_option maxHeartbeats 4000000 in
set_option maxRecDepth 100000 in
theorem mX7_leave (l : Launch) (E : EE) (B : Nat) (g : GS) (x : Int32) (hgm : Gm g) : CG l yX7_leave cX7_leave 3 (some .int) 3 68 E B [.ref (B + 459), .int x] g (some (.int (sX7_leave g x).1)) ((sX7_leave g x).2) := by
  refine mkI (own := RX7) (ty := .int) rfl (by decide) rfl (rfl) (Nat.le_of_ble_eq_true rfl) (fun P_ e_ s_ m_ a_ below meth cd Q X fin ls hl hJ => ?_)
  have hx := X.1
  have hb := X.2.1
  have hl : lv_has ls 3 [(0, .ref (B + 459)), (1, .int x)] := hl
  refine lv_aload_n hx hb dX7_leave_0 rfl (lv_at hl 0 rfl) ?_
  refine lv_iload_n hx hb dX7_leave_1 rfl (lv_at hl 1 rfl) ?_
  refine kX7_138 X hJ (mX7_leaveError l E B _ x (g.2.2.1 0) rfl ((hgm).1 0 (by omega))) rfl (by omega) (at_M rfl) hl.1 ⟨Nat.le_of_ble_eq_true rfl, Nat.le_of_ble_eq_true rfl⟩ ⟨Nat.le_refl _, Nat.le_refl _⟩ (rest := []) rfl (Nat.le_of_ble_eq_true rfl) dX7_leave_2 (fun H locs hJ => ?_)
  refine lv_istore_n (lv' := [(2, .int (sX7_leaveError (g.2.2.1 0) x)), (0, .ref (B + 459)), (1, .int x)]) hx hb dX7_leave_5 rfl hl (by decide) rfl (fun ls hl => ?_)
  refine lv_iload_n hx hb dX7_leave_6 rfl (lv_at hl 0 rfl) ?_
  refine lv_if_eq (tgt := 12) hx hb dX7_leave_7 (by decide) (fun c_7 => ?_) (fun c_7 => ?_)
  · skip
    have hC := (isCart_of (hgm.1 0 (by omega)).1 (lE0 c_7).1).2.2
    have hl : lv_has ls 3 [(2, .int (sX7_leaveError (g.2.2.1 0) x)), (0, .ref (B + 459)), (1, .int (nI (nn x)))] := by rw [← show x = nI (nn x) from (isCart_of (hgm.1 0 (by omega)).1 (lE0 c_7).1).1]; exact hl
    refine lv_aload_n hx hb dX7_leave_12 rfl (lv_at hl 1 rfl) ?_
    refine kX7_117 X hJ (mX7_changes l E B g (hgm)) rfl (by omega) (at_M rfl) hl.1 ⟨Nat.le_of_ble_eq_true rfl, Nat.le_of_ble_eq_true rfl⟩ ⟨Nat.le_refl _, Nat.le_refl _⟩ (rest := []) rfl (Nat.le_of_ble_eq_true rfl) dX7_leave_13 (fun H locs hJ => ?_)
    refine lv_aload_n hx hb dX7_leave_16 rfl (lv_at hl 1 rfl) ?_
    refine lv_iload_n hx hb dX7_leave_17 rfl (lv_at hl 2 rfl) ?_
    refine kX7_141 X hJ (by have h := mX7_leaves l E B (sX7_changes g) (nn x) ((sX7_changes g).2.2.1 0) (by omega) ((Gm_changes (hgm)).1 0 (by omega)); rw [upS_self] at h; exact h) rfl (by omega) (at_M rfl) hl.1 ⟨Nat.le_of_ble_eq_true rfl, Nat.le_of_ble_eq_true rfl⟩ ⟨Nat.le_refl _, Nat.le_refl _⟩ (rest := []) rfl (Nat.le_of_ble_eq_true rfl) dX7_leave_18 (fun H locs hJ => ?_)
    have hs : sX7_leave g x = ((sX7_leaves ((sX7_changes g).2.2.1 0) (nn x)).1, upS (sX7_changes g) 0 (sX7_leaves ((sX7_changes g).2.2.1 0) (nn x)).2) := by unfold sX7_leave; rw [if_pos c_7]
    exact fin (by rw [hs]; dsimp only; exact hJ) (by rw [hs]) dX7_leave_21
  · skip
    refine lv_iload_n hx hb dX7_leave_10 rfl (lv_at hl 0 rfl) ?_
    have hs : sX7_leave g x = (sX7_leaveError (g.2.2.1 0) x, g) := by unfold sX7_leave; rw [if_neg c_7]
    exact fin (by rw [hs]; dsimp only; exact hJ) (by rw [hs]) dX7_leave_11

def sX7_hint (g : GS) (x : Int32) (y : Int32) : Int32 × GS := if sX7_hintError (g.2.2.1 0) x y = 0 then (((sX7_hints ((sX7_changes g).2.2.1 0) (nn x) (nn y)).1, upS (sX7_changes g) 0 (sX7_hints ((sX7_changes g).2.2.1 0) (nn x) (nn y)).2)) else ((sX7_hintError (g.2.2.1 0) x y, g))
set_option maxHeartbeats 4000000 in
set_option maxRecDepth 100000 in
theorem mX7_hint (l : Launch) (E : EE) (B : Nat) (g : GS) (x : Int32) (y : Int32) (hgm : Gm g) : CG l yX7_hint cX7_hint 4 (some .int) 3 70 E B [.ref (B + 459), .int x, .int y] g (some (.int (sX7_hint g x y).1)) ((sX7_hint g x y).2) := by
  refine mkI (own := RX7) (ty := .int) rfl (by decide) rfl (rfl) (Nat.le_of_ble_eq_true rfl) (fun P_ e_ s_ m_ a_ below meth cd Q X fin ls hl hJ => ?_)
  have hx := X.1
  have hb := X.2.1
  have hl : lv_has ls 4 [(0, .ref (B + 459)), (1, .int x), (2, .int y)] := hl
  refine lv_aload_n hx hb dX7_hint_0 rfl (lv_at hl 0 rfl) ?_
  refine lv_iload_n hx hb dX7_hint_1 rfl (lv_at hl 1 rfl) ?_
  refine lv_iload_n hx hb dX7_hint_2 rfl (lv_at hl 2 rfl) ?_
  refine kX7_144 X hJ (mX7_hintError l E B _ x y (g.2.2.1 0) rfl ((hgm).1 0 (by omega))) rfl (by omega) (at_M rfl) hl.1 ⟨Nat.le_of_ble_eq_true rfl, Nat.le_of_ble_eq_true rfl⟩ ⟨Nat.le_refl _, Nat.le_refl _⟩ (rest := []) rfl (Nat.le_of_ble_eq_true rfl) dX7_hint_3 (fun H locs hJ => ?_)
  refine lv_istore_n (lv' := [(3, .int (sX7_hintError (g.2.2.1 0) x y)), (0, .ref (B + 459)), (1, .int x), (2, .int y)]) hx hb dX7_hint_6 rfl hl (by decide) rfl (fun ls hl => ?_)
  refine lv_iload_n hx hb dX7_hint_7 rfl (lv_at hl 0 rfl) ?_
  refine lv_if_eq (tgt := 13) hx hb dX7_hint_8 (by decide) (fun c_8 => ?_) (fun c_8 => ?_)
  · skip
    have hC := (isCart_of (hgm.1 0 (by omega)).1 (hE0 c_8).1).2.2
    have hB := (isBridge_of (hgm.1 0 (by omega)).1 (hE0 c_8).2).2.2
    have hl : lv_has ls 4 [(3, .int (sX7_hintError (g.2.2.1 0) x y)), (0, .ref (B + 459)), (1, .int (nI (nn x))), (2, .int y)] := by rw [← show x = nI (nn x) from (isCart_of (hgm.1 0 (by omega)).1 (hE0 c_8).1).1]; exact hl
    have hl : lv_has ls 4 [(3, .int (sX7_hintError (g.2.2.1 0) x y)), (0, .ref (B + 459)), (1, .int (nI (nn x))), (2, .int (nI (nn y)))] := by rw [← show y = nI (nn y) from (isBridge_of (hgm.1 0 (by omega)).1 (hE0 c_8).2).1]; exact hl
    refine lv_aload_n hx hb dX7_hint_13 rfl (lv_at hl 1 rfl) ?_
    refine kX7_117 X hJ (mX7_changes l E B g (hgm)) rfl (by omega) (at_M rfl) hl.1 ⟨Nat.le_of_ble_eq_true rfl, Nat.le_of_ble_eq_true rfl⟩ ⟨Nat.le_refl _, Nat.le_refl _⟩ (rest := []) rfl (Nat.le_of_ble_eq_true rfl) dX7_hint_14 (fun H locs hJ => ?_)
    refine lv_aload_n hx hb dX7_hint_17 rfl (lv_at hl 1 rfl) ?_
    refine lv_iload_n hx hb dX7_hint_18 rfl (lv_at hl 2 rfl) ?_
    refine lv_iload_n hx hb dX7_hint_19 rfl (lv_at hl 3 rfl) ?_
    refine kX7_147 X hJ (by have h := mX7_hints l E B (sX7_changes g) (nn x) (nn y) ((sX7_changes g).2.2.1 0) (by omega) (by omega) ((Gm_changes (hgm)).1 0 (by omega)); rw [upS_self] at h; exact h) rfl (by omega) (at_M rfl) hl.1 ⟨Nat.le_of_ble_eq_true rfl, Nat.le_of_ble_eq_true rfl⟩ ⟨Nat.le_refl _, Nat.le_refl _⟩ (rest := []) rfl (Nat.le_of_ble_eq_true rfl) dX7_hint_20 (fun H locs hJ => ?_)
    have hs : sX7_hint g x y = ((sX7_hints ((sX7_changes g).2.2.1 0) (nn x) (nn y)).1, upS (sX7_changes g) 0 (sX7_hints ((sX7_changes g).2.2.1 0) (nn x) (nn y)).2) := by unfold sX7_hint; rw [if_pos c_8]
    exact fin (by rw [hs]; dsimp only; exact hJ) (by rw [hs]) dX7_hint_23
  · skip
    refine lv_iload_n hx hb dX7_hint_11 rfl (lv_at hl 0 rfl) ?_
    have hs : sX7_hint g x y = (sX7_hintError (g.2.2.1 0) x y, g) := by unfold sX7_hint; rw [if_neg c_8]
    exact fin (by rw [hs]; dsimp only; exact hJ) (by rw [hs]) dX7_hint_12

def sX7_pass (g : GS) (x : Int32) : Int32 × GS := if sX7_passError (g.2.2.1 0) x = 0 then (((sX7_hours ((sX7_changes g).2.2.1 0) x).1, upS (sX7_changes g) 0 (sX7_hours ((sX7_changes g).2.2.1 0) x).2)) else ((sX7_passError (g.2.2.1 0) x, g))
set_option maxHeartbeats 4000000 in
set_option maxRecDepth 100000 in
theorem mX7_pass (l : Launch) (E : EE) (B : Nat) (g : GS) (x : Int32) (hgm : Gm g) : CG l yX7_pass cX7_pass 3 (some .int) 7 172 E B [.ref (B + 459), .int x] g (some (.int (sX7_pass g x).1)) ((sX7_pass g x).2) := by
  refine mkI (own := RX7) (ty := .int) rfl (by decide) rfl (rfl) (Nat.le_of_ble_eq_true rfl) (fun P_ e_ s_ m_ a_ below meth cd Q X fin ls hl hJ => ?_)
  have hx := X.1
  have hb := X.2.1
  have hl : lv_has ls 3 [(0, .ref (B + 459)), (1, .int x)] := hl
  refine lv_aload_n hx hb dX7_pass_0 rfl (lv_at hl 0 rfl) ?_
  refine lv_iload_n hx hb dX7_pass_1 rfl (lv_at hl 1 rfl) ?_
  refine kX7_150 X hJ (mX7_passError l E B _ x (g.2.2.1 0) rfl) rfl (by omega) (at_M rfl) hl.1 ⟨Nat.le_of_ble_eq_true rfl, Nat.le_of_ble_eq_true rfl⟩ ⟨Nat.le_refl _, Nat.le_refl _⟩ (rest := []) rfl (Nat.le_of_ble_eq_true rfl) dX7_pass_2 (fun H locs hJ => ?_)
  refine lv_istore_n (lv' := [(2, .int (sX7_passError (g.2.2.1 0) x)), (0, .ref (B + 459)), (1, .int x)]) hx hb dX7_pass_5 rfl hl (by decide) rfl (fun ls hl => ?_)
  refine lv_iload_n hx hb dX7_pass_6 rfl (lv_at hl 0 rfl) ?_
  refine lv_if_eq (tgt := 12) hx hb dX7_pass_7 (by decide) (fun c_7 => ?_) (fun c_7 => ?_)
  · skip
    refine lv_aload_n hx hb dX7_pass_12 rfl (lv_at hl 1 rfl) ?_
    refine kX7_117 X hJ (mX7_changes l E B g (hgm)) rfl (by omega) (at_M rfl) hl.1 ⟨Nat.le_of_ble_eq_true rfl, Nat.le_of_ble_eq_true rfl⟩ ⟨Nat.le_refl _, Nat.le_refl _⟩ (rest := []) rfl (Nat.le_of_ble_eq_true rfl) dX7_pass_13 (fun H locs hJ => ?_)
    refine lv_aload_n hx hb dX7_pass_16 rfl (lv_at hl 1 rfl) ?_
    refine lv_iconst (v := 0) hx hb dX7_pass_17 (by decide) ?_
    refine lv_iload_n hx hb dX7_pass_18 rfl (lv_at hl 2 rfl) ?_
    refine kX7_153 X hJ (by have h := mX7_hours l E B (sX7_changes g) 0 x ((sX7_changes g).2.2.1 0) (by omega) ((Gm_changes (hgm)).1 0 (by omega)) ((pE0 c_7).1); rw [upS_self] at h; exact h) rfl (by omega) (at_M rfl) hl.1 ⟨Nat.le_of_ble_eq_true rfl, Nat.le_of_ble_eq_true rfl⟩ ⟨Nat.le_refl _, Nat.le_refl _⟩ (rest := []) rfl (Nat.le_of_ble_eq_true rfl) dX7_pass_19 (fun H locs hJ => ?_)
    have hs : sX7_pass g x = ((sX7_hours ((sX7_changes g).2.2.1 0) x).1, upS (sX7_changes g) 0 (sX7_hours ((sX7_changes g).2.2.1 0) x).2) := by unfold sX7_pass; rw [if_pos c_7]
    exact fin (by rw [hs]; dsimp only; exact hJ) (by rw [hs]) dX7_pass_22
  · skip
    refine lv_iload_n hx hb dX7_pass_10 rfl (lv_at hl 0 rfl) ?_
    have hs : sX7_pass g x = (sX7_passError (g.2.2.1 0) x, g) := by unfold sX7_pass; rw [if_neg c_7]
    exact fin (by rw [hs]; dsimp only; exact hJ) (by rw [hs]) dX7_pass_11

