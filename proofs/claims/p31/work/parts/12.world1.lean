def sX5_bridgeOf (w : Row) (x : Int32) : Option Nat := if sX6_isBelow x (w 5) = 0 then (none) else (some (nn x))
set_option maxHeartbeats 4000000 in
set_option maxRecDepth 100000 in
theorem mX5_bridgeOf (l : Launch) (E : EE) (B : Nat) (g : GS) (k : Nat) (x : Int32) (w : Row) (hk : k < 11)  (hw : g.1 k = w) (hcn : Cn w) : CG l yX5_bridgeOf cX5_bridgeOf 2 (some (.object "BridgeWardens$Bridge")) 1 21 E B [.ref (B + wo k), .int x] g (some (va_rf (((sX5_bridgeOf w x)).map (fun q => B + (wo k + (5 + q)))))) g := by
  refine mkR (own := RX5) (ty := (.object "BridgeWardens$Bridge")) rfl (by decide) rfl ⟨_, rfl⟩ (Nat.le_of_ble_eq_true rfl) (fun P_ e_ s_ m_ a_ below meth cd Q X fin ls hl hJ => ?_)
  have hx := X.1
  have hb := X.2.1
  have hl : lv_has ls 2 [(0, .ref (B + wo k)), (1, .int x)] := hl
  refine lv_iload_n hx hb dX5_bridgeOf_0 rfl (lv_at hl 1 rfl) ?_
  refine lv_aload_n hx hb dX5_bridgeOf_1 rfl (lv_at hl 0 rfl) ?_
  refine gX5_57 X hJ (k := k) (w := w) (by omega) hw dX5_bridgeOf_2 ?_
  refine kX5_72 X hJ (mX6_isBelow l E B _ x (w 5)) rfl hl.1 ⟨Nat.le_of_ble_eq_true rfl, Nat.le_of_ble_eq_true rfl⟩ ⟨Nat.le_refl _, Nat.le_refl _⟩ (rest := []) rfl (Nat.le_of_ble_eq_true rfl) dX5_bridgeOf_5 (fun H locs hJ => ?_)
  refine lv_if_eq (tgt := 20) hx hb dX5_bridgeOf_8 (by decide) (fun c_8 => ?_) (fun c_8 => ?_)
  · skip
    refine lv_null hx hb dX5_bridgeOf_20 ?_
    have hs : sX5_bridgeOf w x = none := by unfold sX5_bridgeOf; rw [if_pos c_8]
    exact fin hJ (by rw [hs]; try rfl) dX5_bridgeOf_21
  · skip
    refine lv_aload_n hx hb dX5_bridgeOf_11 rfl (lv_at hl 0 rfl) ?_
    refine gX5_17 X hJ (k := k) (w := w) (by omega) hw dX5_bridgeOf_12 ?_
    refine lv_iload_n hx hb dX5_bridgeOf_15 rfl (lv_at hl 1 rfl) ?_
    refine cvt (y := nI (nn x)) ((isB_of c_8 hcn.2.1).1) ?_
    refine ld_brs X hJ (k := k) (by omega) (j := nn x) (rfl) ((isB_of c_8 hcn.2.1).2.2) dX5_bridgeOf_16 ?_
    refine lv_goto (tgt := 21) hx hb dX5_bridgeOf_17 (by decide) ?_
    have hs : sX5_bridgeOf w x = some (nn x) := by unfold sX5_bridgeOf; rw [if_neg c_8]
    exact fin hJ (by rw [hs]; try rfl) dX5_bridgeOf_21

def sX5_cartOf (w : Row) (x : Int32) : Option Nat := if sX6_isBelow x (w 6) = 0 then (none) else (some (nn x))
set_option maxHeartbeats 4000000 in
set_option maxRecDepth 100000 in
theorem mX5_cartOf (l : Launch) (E : EE) (B : Nat) (g : GS) (k : Nat) (x : Int32) (w : Row) (hk : k < 11)  (hw : g.1 k = w) (hcn : Cn w) : CG l yX5_cartOf cX5_cartOf 2 (some (.object "BridgeWardens$Cart")) 1 21 E B [.ref (B + wo k), .int x] g (some (va_rf (((sX5_cartOf w x)).map (fun q => B + (wo k + (17 + 3 * q)))))) g := by
  refine mkR (own := RX5) (ty := (.object "BridgeWardens$Cart")) rfl (by decide) rfl ⟨_, rfl⟩ (Nat.le_of_ble_eq_true rfl) (fun P_ e_ s_ m_ a_ below meth cd Q X fin ls hl hJ => ?_)
  have hx := X.1
  have hb := X.2.1
  have hl : lv_has ls 2 [(0, .ref (B + wo k)), (1, .int x)] := hl
  refine lv_iload_n hx hb dX5_cartOf_0 rfl (lv_at hl 1 rfl) ?_
  refine lv_aload_n hx hb dX5_cartOf_1 rfl (lv_at hl 0 rfl) ?_
  refine gX5_60 X hJ (k := k) (w := w) (by omega) hw dX5_cartOf_2 ?_
  refine kX5_72 X hJ (mX6_isBelow l E B _ x (w 6)) rfl hl.1 ⟨Nat.le_of_ble_eq_true rfl, Nat.le_of_ble_eq_true rfl⟩ ⟨Nat.le_refl _, Nat.le_refl _⟩ (rest := []) rfl (Nat.le_of_ble_eq_true rfl) dX5_cartOf_5 (fun H locs hJ => ?_)
  refine lv_if_eq (tgt := 20) hx hb dX5_cartOf_8 (by decide) (fun c_8 => ?_) (fun c_8 => ?_)
  · skip
    refine lv_null hx hb dX5_cartOf_20 ?_
    have hs : sX5_cartOf w x = none := by unfold sX5_cartOf; rw [if_pos c_8]
    exact fin hJ (by rw [hs]; try rfl) dX5_cartOf_21
  · skip
    refine lv_aload_n hx hb dX5_cartOf_11 rfl (lv_at hl 0 rfl) ?_
    refine gX5_23 X hJ (k := k) (w := w) (by omega) hw dX5_cartOf_12 ?_
    refine lv_iload_n hx hb dX5_cartOf_15 rfl (lv_at hl 1 rfl) ?_
    refine cvt (y := nI (nn x)) ((isB_of c_8 hcn.2.2).1) ?_
    refine ld_cts X hJ (k := k) (by omega) (j := nn x) (rfl) ((isB_of c_8 hcn.2.2).2.2) dX5_cartOf_16 ?_
    refine lv_goto (tgt := 21) hx hb dX5_cartOf_17 (by decide) ?_
    have hs : sX5_cartOf w x = some (nn x) := by unfold sX5_cartOf; rw [if_neg c_8]
    exact fin hJ (by rw [hs]; try rfl) dX5_cartOf_21

theorem bridgeOf_some {w : Row} {x : Int32} {q : Nat} (hcn : Cn w) (h : sX5_bridgeOf w x = some q) : q < 12 ∧ x = nI q ∧ q < nn (w 5) := by
  unfold sX5_bridgeOf at h
  by_cases h0 : sX6_isBelow x (w 5) = 0
  · rw [if_pos h0] at h; cases h
  · rw [if_neg h0] at h
    have a := isB_of h0 hcn.2.1
    cases h
    exact ⟨a.2.2, a.1, a.2.1⟩
theorem cartOf_some {w : Row} {x : Int32} {q : Nat} (hcn : Cn w) (h : sX5_cartOf w x = some q) : q < 8 ∧ x = nI q ∧ q < nn (w 6) := by
  unfold sX5_cartOf at h
  by_cases h0 : sX6_isBelow x (w 6) = 0
  · rw [if_pos h0] at h; cases h
  · rw [if_neg h0] at h
    have a := isB_of h0 hcn.2.2
    cases h
    exact ⟨a.2.2, a.1, a.2.1⟩
def bX5_waiterAt_5 (w : Row) (i : Nat) (r : Int32) : Nat → Int32 → Nat → Option Nat
  | 0, _, _ => none
  | n + 1, ah, p => if w 10 ≤ nI p then (none) else (if sX6_isBelow (w (12 + p)) (w 6) = 0 then (bX5_waiterAt_5 w i r n ah (p + 1)) else (if w (104 + 8 * (nn (w (12 + p))) + 2) = nI i then (if ah = r then (some (nn (w (12 + p)))) else (bX5_waiterAt_5 w i r n (ah + 1) (p + 1))) else (bX5_waiterAt_5 w i r n ah (p + 1))))
def sX5_waiterAt (w : Row) (i : Nat) (r : Int32) : Option Nat := bX5_waiterAt_5 w i r 9 0 0
set_option maxHeartbeats 4000000 in
set_option maxRecDepth 100000 in
theorem mX5_waiterAt (l : Launch) (E : EE) (B : Nat) (g : GS) (k : Nat) (i : Nat) (r : Int32) (w : Row) (hk : k < 11) (hi : i < 12) (hw : g.1 k = w) (hcn : Cn w) : CG l yX5_waiterAt cX5_waiterAt 6 (some (.object "BridgeWardens$Cart")) 1 21 E B [.ref (B + wo k), .ref (B + (wo k + (5 + i))), .int r] g (some (va_rf (((sX5_waiterAt w i r)).map (fun q => B + (wo k + (17 + 3 * q)))))) g := by
  refine mkR (own := RX5) (ty := (.object "BridgeWardens$Cart")) rfl (by decide) rfl ⟨_, rfl⟩ (Nat.le_of_ble_eq_true rfl) (fun P_ e_ s_ m_ a_ below meth cd Q X fin ls hl hJ => ?_)
  have hx := X.1
  have hb := X.2.1
  have hl : lv_has ls 6 [(0, .ref (B + wo k)), (1, .ref (B + (wo k + (5 + i)))), (2, .int r)] := hl
  have bk_5 : ∀ (n : Nat) (ah : Int32)  (p : Nat), 8 - p < n → (p ≤ 8) → ∀ (H : Heap) (locs : List Loc) (ls : Array Slot), JG E B s_ (g) H locs → lv_has ls 6 [(0, .ref (B + wo k)), (1, .ref (B + (wo k + (5 + i)))), (2, .int r), (3, .int ah), (4, .int (nI p))] → sX5_waiterAt w i r = bX5_waiterAt_5 w i r n ah p → W P_ l e_ (rmm 1 21 0 0) s_ m_ a_ below meth cd H locs 0 0 Q (F0 m_ 5 ls []) := by
    intro n
    induction n with
    | zero => intro ah p hm; exact absurd hm (Nat.not_lt_zero _)
    | succ n ih =>
      intro ah p hm hp H locs ls hJ hl hs
      refine lv_iload hx hb dX5_waiterAt_5 (lv_at hl 4 rfl) ?_
      refine lv_aload_n hx hb dX5_waiterAt_7 rfl (lv_at hl 0 rfl) ?_
      refine gX5_54 X hJ (k := k) (w := w) (by omega) hw dX5_waiterAt_8 ?_
      refine lv_icmp_ge (tgt := 74) hx hb dX5_waiterAt_11 (by decide) (fun c_11 => ?_) (fun c_11 => ?_)
      · skip
        refine lv_null hx hb dX5_waiterAt_74 ?_
        have hs : sX5_waiterAt w i r = none := hs.trans (by rw [bX5_waiterAt_5, if_pos c_11])
        exact fin hJ (by rw [hs]; try rfl) dX5_waiterAt_75
      · skip
        have hp2 := hcn.lt10 (by omega) c_11
        refine lv_aload_n hx hb dX5_waiterAt_14 rfl (lv_at hl 0 rfl) ?_
        refine gX5_27 X hJ (k := k) (w := w) (by omega) hw dX5_waiterAt_15 ?_
        refine lv_iload hx hb dX5_waiterAt_18 (lv_at hl 4 rfl) ?_
        refine ld_line X hJ (k := k) (w := w) (by omega) hw (j := p) (rfl) (by omega) dX5_waiterAt_20 ?_
        refine lv_istore (lv' := [(5, .int (w (12 + p))), (0, .ref (B + wo k)), (1, .ref (B + (wo k + (5 + i)))), (2, .int r), (3, .int ah), (4, .int (nI p))]) hx hb dX5_waiterAt_21 hl (by decide) rfl (fun ls hl => ?_)
        refine lv_iload hx hb dX5_waiterAt_23 (lv_at hl 0 rfl) ?_
        refine lv_aload_n hx hb dX5_waiterAt_25 rfl (lv_at hl 1 rfl) ?_
        refine gX5_60 X hJ (k := k) (w := w) (by omega) hw dX5_waiterAt_26 ?_
        refine kX5_72 X hJ (mX6_isBelow l E B _ (w (12 + p)) (w 6)) rfl hl.1 ⟨Nat.le_of_ble_eq_true rfl, Nat.le_of_ble_eq_true rfl⟩ ⟨Nat.le_refl _, Nat.le_refl _⟩ (rest := []) rfl (Nat.le_of_ble_eq_true rfl) dX5_waiterAt_29 (fun H locs hJ => ?_)
        refine lv_if_eq (tgt := 68) hx hb dX5_waiterAt_32 (by decide) (fun c_32 => ?_) (fun c_32 => ?_)
        · skip
          refine lv_iinc (v := nI (p + 1)) (lv' := [(4, .int (nI (p + 1))), (5, .int (w (12 + p))), (0, .ref (B + wo k)), (1, .ref (B + (wo k + (5 + i)))), (2, .int r), (3, .int ah)]) hx hb dX5_waiterAt_68 hl (k := 5) rfl (by first | exact nI_add _ _ | rfl) (by decide) rfl (fun ls hl => ?_)
          refine lv_goto (tgt := 5) hx hb dX5_waiterAt_71 (by decide) ?_
          have hs : sX5_waiterAt w i r = bX5_waiterAt_5 w i r n ah (p + 1) := hs.trans (by rw [bX5_waiterAt_5, if_neg c_11, if_pos c_32])
          exact ih ah (p + 1) (by omega) (by omega) _ _ _ hJ (lv_sub hl [2, 3, 4, 5, 0] rfl) hs
        · skip
          refine lv_aload_n hx hb dX5_waiterAt_35 rfl (lv_at hl 1 rfl) ?_
          refine gX5_23 X hJ (k := k) (w := w) (by omega) hw dX5_waiterAt_36 ?_
          have hq9 := (isB_of c_32 hcn.2.2).2.2
          refine lv_iload hx hb dX5_waiterAt_39 (lv_at hl 0 rfl) ?_
          refine cvt (y := nI (nn (w (12 + p)))) ((isB_of c_32 hcn.2.2).1) ?_
          refine ld_cts X hJ (k := k) (by omega) (j := nn (w (12 + p))) (rfl) ((isB_of c_32 hcn.2.2).2.2) dX5_waiterAt_41 ?_
          refine gX5_118 X hJ (k := k) (w := w) (by omega) (i := nn (w (12 + p))) (by omega)  hw dX5_waiterAt_42 ?_
          refine lv_aload_n hx hb dX5_waiterAt_45 rfl (lv_at hl 2 rfl) ?_
          refine gX5_94 X hJ (k := k) (w := w) (by omega) (i := i) (by omega)  hw dX5_waiterAt_46 ?_
          refine lv_icmp_ne (tgt := 68) hx hb dX5_waiterAt_49 (by decide) (fun c_49 => ?_) (fun c_49 => ?_)
          · skip
            refine lv_iinc (v := nI (p + 1)) (lv' := [(4, .int (nI (p + 1))), (5, .int (w (12 + p))), (0, .ref (B + wo k)), (1, .ref (B + (wo k + (5 + i)))), (2, .int r), (3, .int ah)]) hx hb dX5_waiterAt_68 hl (k := 5) rfl (by first | exact nI_add _ _ | rfl) (by decide) rfl (fun ls hl => ?_)
            refine lv_goto (tgt := 5) hx hb dX5_waiterAt_71 (by decide) ?_
            have hs : sX5_waiterAt w i r = bX5_waiterAt_5 w i r n ah (p + 1) := hs.trans (by rw [bX5_waiterAt_5, if_neg c_11, if_neg c_32, if_neg c_49])
            exact ih ah (p + 1) (by omega) (by omega) _ _ _ hJ (lv_sub hl [2, 3, 4, 5, 0] rfl) hs
          · skip
            refine lv_iload_n hx hb dX5_waiterAt_52 rfl (lv_at hl 4 rfl) ?_
            refine lv_iload_n hx hb dX5_waiterAt_53 rfl (lv_at hl 3 rfl) ?_
            refine lv_icmp_ne (tgt := 65) hx hb dX5_waiterAt_54 (by decide) (fun c_54 => ?_) (fun c_54 => ?_)
            · skip
              refine lv_iinc (v := ah + 1) (lv' := [(3, .int (ah + 1)), (5, .int (w (12 + p))), (0, .ref (B + wo k)), (1, .ref (B + (wo k + (5 + i)))), (2, .int r), (4, .int (nI p))]) hx hb dX5_waiterAt_65 hl (k := 4) rfl (by first | exact rfl | rfl) (by decide) rfl (fun ls hl => ?_)
              refine lv_iinc (v := nI (p + 1)) (lv' := [(4, .int (nI (p + 1))), (3, .int (ah + 1)), (5, .int (w (12 + p))), (0, .ref (B + wo k)), (1, .ref (B + (wo k + (5 + i)))), (2, .int r)]) hx hb dX5_waiterAt_68 hl (k := 5) rfl (by first | exact nI_add _ _ | rfl) (by decide) rfl (fun ls hl => ?_)
              refine lv_goto (tgt := 5) hx hb dX5_waiterAt_71 (by decide) ?_
              have hs : sX5_waiterAt w i r = bX5_waiterAt_5 w i r n (ah + 1) (p + 1) := hs.trans (by rw [bX5_waiterAt_5, if_neg c_11, if_neg c_32, if_pos c_49, if_neg c_54])
              exact ih (ah + 1) (p + 1) (by omega) (by omega) _ _ _ hJ (lv_sub hl [3, 4, 5, 1, 0] rfl) hs
            · skip
              refine lv_aload_n hx hb dX5_waiterAt_57 rfl (lv_at hl 1 rfl) ?_
              refine gX5_23 X hJ (k := k) (w := w) (by omega) hw dX5_waiterAt_58 ?_
              refine lv_iload hx hb dX5_waiterAt_61 (lv_at hl 0 rfl) ?_
              refine cvt (y := nI (nn (w (12 + p)))) ((isB_of c_32 hcn.2.2).1) ?_
              refine ld_cts X hJ (k := k) (by omega) (j := nn (w (12 + p))) (rfl) ((isB_of c_32 hcn.2.2).2.2) dX5_waiterAt_63 ?_
              have hs : sX5_waiterAt w i r = some (nn (w (12 + p))) := hs.trans (by rw [bX5_waiterAt_5, if_neg c_11, if_neg c_32, if_pos c_49, if_pos c_54])
              exact fin hJ (by rw [hs]; try rfl) dX5_waiterAt_64
  refine lv_iconst (v := 0) hx hb dX5_waiterAt_0 (by decide) ?_
  refine lv_istore_n (lv' := [(3, .int 0), (0, .ref (B + wo k)), (1, .ref (B + (wo k + (5 + i)))), (2, .int r)]) hx hb dX5_waiterAt_1 rfl hl (by decide) rfl (fun ls hl => ?_)
  refine lv_iconst (v := 0) hx hb dX5_waiterAt_2 (by decide) ?_
  refine lv_istore (lv' := [(4, .int 0), (3, .int 0), (0, .ref (B + wo k)), (1, .ref (B + (wo k + (5 + i)))), (2, .int r)]) hx hb dX5_waiterAt_3 hl (by decide) rfl (fun ls hl => ?_)
  have hs : sX5_waiterAt w i r = bX5_waiterAt_5 w i r 9 0 0 := by unfold sX5_waiterAt; rfl
  exact bk_5 9 0 0 (by omega) (by omega) _ _ _ hJ (lv_sub hl [2, 3, 4, 1, 0] rfl) hs

theorem waiterAt_some {w : Row} {i : Nat} {r : Int32} {q : Nat} (hcn : Cn w) (h : sX5_waiterAt w i r = some q) : q < 8 := by
  have key : ∀ (n : Nat) (ah : Int32) (p : Nat), bX5_waiterAt_5 w i r n ah p = some q → q < 8 := by
    intro n
    induction n with
    | zero => intro ah p h; cases h
    | succ n ih =>
      intro ah p h
      rw [bX5_waiterAt_5] at h
      by_cases h1 : w 10 ≤ nI p
      · rw [if_pos h1] at h; cases h
      rw [if_neg h1] at h
      by_cases h2 : sX6_isBelow (w (12 + p)) (w 6) = 0
      · rw [if_pos h2] at h; exact ih _ _ h
      rw [if_neg h2] at h
      by_cases h3 : w (104 + 8 * (nn (w (12 + p))) + 2) = nI i
      · rw [if_pos h3] at h
        by_cases h4 : ah = r
        · rw [if_pos h4] at h
          have a := (isB_of h2 hcn.2.2).2.2
          cases h; exact a
        · rw [if_neg h4] at h; exact ih _ _ h
      · rw [if_neg h3] at h; exact ih _ _ h
  exact key _ _ _ h
def sX5_payerOfTie (w : Row) (c1 : Nat) (c2 : Nat) : Option Nat := if nI c2 ≤ nI c1 then (if nI c2 ≤ nI c1 then (if w (104 + 8 * c2 + 1) < w (0) then (if w (104 + 8 * c1 + 1) < w (0) then (none) else (some c1)) else (some c2)) else (if w (104 + 8 * c2 + 1) < w (0) then (if w (104 + 8 * c2 + 1) < w (0) then (none) else (some c2)) else (some c2))) else (if nI c2 ≤ nI c1 then (if w (104 + 8 * c1 + 1) < w (0) then (if w (104 + 8 * c1 + 1) < w (0) then (none) else (some c1)) else (some c1)) else (if w (104 + 8 * c1 + 1) < w (0) then (if w (104 + 8 * c2 + 1) < w (0) then (none) else (some c2)) else (some c1)))
set_option maxHeartbeats 4000000 in
set_option maxRecDepth 100000 in
theorem mX5_payerOfTie (l : Launch) (E : EE) (B : Nat) (g : GS) (k : Nat) (c1 : Nat) (c2 : Nat) (w : Row) (hk : k < 11) (hc1 : c1 < 8) (hc2 : c2 < 8) (hw : g.1 k = w) : CG l yX5_payerOfTie cX5_payerOfTie 5 (some (.object "BridgeWardens$Cart")) 0 0 E B [.ref (B + wo k), .ref (B + (wo k + (17 + 3 * c1))), .ref (B + (wo k + (17 + 3 * c2)))] g (some (va_rf (((sX5_payerOfTie w c1 c2)).map (fun q => B + (wo k + (17 + 3 * q)))))) g := by
  refine mkR (own := RX5) (ty := (.object "BridgeWardens$Cart")) rfl (by decide) rfl ⟨_, rfl⟩ (Nat.le_of_ble_eq_true rfl) (fun P_ e_ s_ m_ a_ below meth cd Q X fin ls hl hJ => ?_)
  have hx := X.1
  have hb := X.2.1
  have hl : lv_has ls 5 [(0, .ref (B + wo k)), (1, .ref (B + (wo k + (17 + 3 * c1)))), (2, .ref (B + (wo k + (17 + 3 * c2))))] := hl
  refine lv_aload_n hx hb dX5_payerOfTie_0 rfl (lv_at hl 1 rfl) ?_
  refine gX5_101 X hJ (k := k) (w := w) (by omega) (i := c1) (by omega)  hw dX5_payerOfTie_1 ?_
  refine lv_aload_n hx hb dX5_payerOfTie_4 rfl (lv_at hl 2 rfl) ?_
  refine gX5_101 X hJ (k := k) (w := w) (by omega) (i := c2) (by omega)  hw dX5_payerOfTie_5 ?_
  refine lv_icmp_ge (tgt := 15) hx hb dX5_payerOfTie_8 (by decide) (fun c_8 => ?_) (fun c_8 => ?_)
  · skip
    refine lv_aload_n hx hb dX5_payerOfTie_15 rfl (lv_at hl 2 rfl) ?_
    refine lv_astore_n (lv' := [(3, .ref (B + (wo k + (17 + 3 * c2)))), (0, .ref (B + wo k)), (1, .ref (B + (wo k + (17 + 3 * c1)))), (2, .ref (B + (wo k + (17 + 3 * c2))))]) hx hb dX5_payerOfTie_16 rfl hl (by decide) rfl (fun ls hl => ?_)
    refine lv_aload_n hx hb dX5_payerOfTie_17 rfl (lv_at hl 2 rfl) ?_
    refine gX5_101 X hJ (k := k) (w := w) (by omega) (i := c1) (by omega)  hw dX5_payerOfTie_18 ?_
    refine lv_aload_n hx hb dX5_payerOfTie_21 rfl (lv_at hl 3 rfl) ?_
    refine gX5_101 X hJ (k := k) (w := w) (by omega) (i := c2) (by omega)  hw dX5_payerOfTie_22 ?_
    refine lv_icmp_ge (tgt := 32) hx hb dX5_payerOfTie_25 (by decide) (fun c_25 => ?_) (fun c_25 => ?_)
    · skip
      refine lv_aload_n hx hb dX5_payerOfTie_32 rfl (lv_at hl 2 rfl) ?_
      refine lv_astore (lv' := [(4, .ref (B + (wo k + (17 + 3 * c1)))), (3, .ref (B + (wo k + (17 + 3 * c2)))), (0, .ref (B + wo k)), (1, .ref (B + (wo k + (17 + 3 * c1)))), (2, .ref (B + (wo k + (17 + 3 * c2))))]) hx hb dX5_payerOfTie_33 hl (by decide) rfl (fun ls hl => ?_)
      refine lv_aload_n hx hb dX5_payerOfTie_35 rfl (lv_at hl 1 rfl) ?_
      refine gX5_98 X hJ (k := k) (w := w) (by omega) (i := c2) (by omega)  hw dX5_payerOfTie_36 ?_
      refine lv_aload_n hx hb dX5_payerOfTie_39 rfl (lv_at hl 2 rfl) ?_
      refine gX5_9 X hJ (k := k) (w := w) (by omega) hw dX5_payerOfTie_40 ?_
      refine lv_iconst (v := 0) hx hb dX5_payerOfTie_43 (by decide) ?_
      refine ld_set X hJ (k := k) (w := w) (by omega) hw (j := 0) (by decide) (by omega) dX5_payerOfTie_44 ?_
      refine lv_icmp_lt (tgt := 50) hx hb dX5_payerOfTie_45 (by decide) (fun c_45 => ?_) (fun c_45 => ?_)
      · skip
        refine lv_aload hx hb dX5_payerOfTie_50 (lv_at hl 0 rfl) ?_
        refine gX5_98 X hJ (k := k) (w := w) (by omega) (i := c1) (by omega)  hw dX5_payerOfTie_52 ?_
        refine lv_aload_n hx hb dX5_payerOfTie_55 rfl (lv_at hl 2 rfl) ?_
        refine gX5_9 X hJ (k := k) (w := w) (by omega) hw dX5_payerOfTie_56 ?_
        refine lv_iconst (v := 0) hx hb dX5_payerOfTie_59 (by decide) ?_
        refine ld_set X hJ (k := k) (w := w) (by omega) hw (j := 0) (by decide) (by omega) dX5_payerOfTie_60 ?_
        refine lv_icmp_lt (tgt := 69) hx hb dX5_payerOfTie_61 (by decide) (fun c_61 => ?_) (fun c_61 => ?_)
        · skip
          refine lv_null hx hb dX5_payerOfTie_69 ?_
          have hs : sX5_payerOfTie w c1 c2 = none := by unfold sX5_payerOfTie; rw [if_pos c_8, if_pos c_25, if_pos c_45, if_pos c_61]
          exact fin hJ (by rw [hs]; try rfl) dX5_payerOfTie_70
        · skip
          refine lv_aload hx hb dX5_payerOfTie_64 (lv_at hl 0 rfl) ?_
          refine lv_goto (tgt := 70) hx hb dX5_payerOfTie_66 (by decide) ?_
          have hs : sX5_payerOfTie w c1 c2 = some c1 := by unfold sX5_payerOfTie; rw [if_pos c_8, if_pos c_25, if_pos c_45, if_neg c_61]
          exact fin hJ (by rw [hs]; try rfl) dX5_payerOfTie_70
      · skip
        refine lv_aload_n hx hb dX5_payerOfTie_48 rfl (lv_at hl 1 rfl) ?_
        have hs : sX5_payerOfTie w c1 c2 = some c2 := by unfold sX5_payerOfTie; rw [if_pos c_8, if_pos c_25, if_neg c_45]
        exact fin hJ (by rw [hs]; try rfl) dX5_payerOfTie_49
    · skip
      refine lv_aload_n hx hb dX5_payerOfTie_28 rfl (lv_at hl 3 rfl) ?_
      refine lv_goto (tgt := 33) hx hb dX5_payerOfTie_29 (by decide) ?_
      refine lv_astore (lv' := [(4, .ref (B + (wo k + (17 + 3 * c2)))), (3, .ref (B + (wo k + (17 + 3 * c2)))), (0, .ref (B + wo k)), (1, .ref (B + (wo k + (17 + 3 * c1)))), (2, .ref (B + (wo k + (17 + 3 * c2))))]) hx hb dX5_payerOfTie_33 hl (by decide) rfl (fun ls hl => ?_)
      refine lv_aload_n hx hb dX5_payerOfTie_35 rfl (lv_at hl 1 rfl) ?_
      refine gX5_98 X hJ (k := k) (w := w) (by omega) (i := c2) (by omega)  hw dX5_payerOfTie_36 ?_
      refine lv_aload_n hx hb dX5_payerOfTie_39 rfl (lv_at hl 2 rfl) ?_
      refine gX5_9 X hJ (k := k) (w := w) (by omega) hw dX5_payerOfTie_40 ?_
      refine lv_iconst (v := 0) hx hb dX5_payerOfTie_43 (by decide) ?_
      refine ld_set X hJ (k := k) (w := w) (by omega) hw (j := 0) (by decide) (by omega) dX5_payerOfTie_44 ?_
      refine lv_icmp_lt (tgt := 50) hx hb dX5_payerOfTie_45 (by decide) (fun c_45 => ?_) (fun c_45 => ?_)
      · skip
        refine lv_aload hx hb dX5_payerOfTie_50 (lv_at hl 0 rfl) ?_
        refine gX5_98 X hJ (k := k) (w := w) (by omega) (i := c2) (by omega)  hw dX5_payerOfTie_52 ?_
        refine lv_aload_n hx hb dX5_payerOfTie_55 rfl (lv_at hl 2 rfl) ?_
        refine gX5_9 X hJ (k := k) (w := w) (by omega) hw dX5_payerOfTie_56 ?_
        refine lv_iconst (v := 0) hx hb dX5_payerOfTie_59 (by decide) ?_
        refine ld_set X hJ (k := k) (w := w) (by omega) hw (j := 0) (by decide) (by omega) dX5_payerOfTie_60 ?_
        refine lv_icmp_lt (tgt := 69) hx hb dX5_payerOfTie_61 (by decide) (fun c_61 => ?_) (fun c_61 => ?_)
        · skip
          refine lv_null hx hb dX5_payerOfTie_69 ?_
          have hs : sX5_payerOfTie w c1 c2 = none := by unfold sX5_payerOfTie; rw [if_pos c_8, if_neg c_25, if_pos c_45, if_pos c_61]
          exact fin hJ (by rw [hs]; try rfl) dX5_payerOfTie_70
        · skip
          refine lv_aload hx hb dX5_payerOfTie_64 (lv_at hl 0 rfl) ?_
          refine lv_goto (tgt := 70) hx hb dX5_payerOfTie_66 (by decide) ?_
          have hs : sX5_payerOfTie w c1 c2 = some c2 := by unfold sX5_payerOfTie; rw [if_pos c_8, if_neg c_25, if_pos c_45, if_neg c_61]
          exact fin hJ (by rw [hs]; try rfl) dX5_payerOfTie_70
      · skip
        refine lv_aload_n hx hb dX5_payerOfTie_48 rfl (lv_at hl 1 rfl) ?_
        have hs : sX5_payerOfTie w c1 c2 = some c2 := by unfold sX5_payerOfTie; rw [if_pos c_8, if_neg c_25, if_neg c_45]
        exact fin hJ (by rw [hs]; try rfl) dX5_payerOfTie_49
  · skip
    refine lv_aload_n hx hb dX5_payerOfTie_11 rfl (lv_at hl 1 rfl) ?_
    refine lv_goto (tgt := 16) hx hb dX5_payerOfTie_12 (by decide) ?_
    refine lv_astore_n (lv' := [(3, .ref (B + (wo k + (17 + 3 * c1)))), (0, .ref (B + wo k)), (1, .ref (B + (wo k + (17 + 3 * c1)))), (2, .ref (B + (wo k + (17 + 3 * c2))))]) hx hb dX5_payerOfTie_16 rfl hl (by decide) rfl (fun ls hl => ?_)
    refine lv_aload_n hx hb dX5_payerOfTie_17 rfl (lv_at hl 2 rfl) ?_
    refine gX5_101 X hJ (k := k) (w := w) (by omega) (i := c1) (by omega)  hw dX5_payerOfTie_18 ?_
    refine lv_aload_n hx hb dX5_payerOfTie_21 rfl (lv_at hl 3 rfl) ?_
    refine gX5_101 X hJ (k := k) (w := w) (by omega) (i := c2) (by omega)  hw dX5_payerOfTie_22 ?_
    refine lv_icmp_ge (tgt := 32) hx hb dX5_payerOfTie_25 (by decide) (fun c_25 => ?_) (fun c_25 => ?_)
    · skip
      refine lv_aload_n hx hb dX5_payerOfTie_32 rfl (lv_at hl 2 rfl) ?_
      refine lv_astore (lv' := [(4, .ref (B + (wo k + (17 + 3 * c1)))), (3, .ref (B + (wo k + (17 + 3 * c1)))), (0, .ref (B + wo k)), (1, .ref (B + (wo k + (17 + 3 * c1)))), (2, .ref (B + (wo k + (17 + 3 * c2))))]) hx hb dX5_payerOfTie_33 hl (by decide) rfl (fun ls hl => ?_)
      refine lv_aload_n hx hb dX5_payerOfTie_35 rfl (lv_at hl 1 rfl) ?_
      refine gX5_98 X hJ (k := k) (w := w) (by omega) (i := c1) (by omega)  hw dX5_payerOfTie_36 ?_
      refine lv_aload_n hx hb dX5_payerOfTie_39 rfl (lv_at hl 2 rfl) ?_
      refine gX5_9 X hJ (k := k) (w := w) (by omega) hw dX5_payerOfTie_40 ?_
      refine lv_iconst (v := 0) hx hb dX5_payerOfTie_43 (by decide) ?_
      refine ld_set X hJ (k := k) (w := w) (by omega) hw (j := 0) (by decide) (by omega) dX5_payerOfTie_44 ?_
      refine lv_icmp_lt (tgt := 50) hx hb dX5_payerOfTie_45 (by decide) (fun c_45 => ?_) (fun c_45 => ?_)
      · skip
        refine lv_aload hx hb dX5_payerOfTie_50 (lv_at hl 0 rfl) ?_
        refine gX5_98 X hJ (k := k) (w := w) (by omega) (i := c1) (by omega)  hw dX5_payerOfTie_52 ?_
        refine lv_aload_n hx hb dX5_payerOfTie_55 rfl (lv_at hl 2 rfl) ?_
        refine gX5_9 X hJ (k := k) (w := w) (by omega) hw dX5_payerOfTie_56 ?_
        refine lv_iconst (v := 0) hx hb dX5_payerOfTie_59 (by decide) ?_
        refine ld_set X hJ (k := k) (w := w) (by omega) hw (j := 0) (by decide) (by omega) dX5_payerOfTie_60 ?_
        refine lv_icmp_lt (tgt := 69) hx hb dX5_payerOfTie_61 (by decide) (fun c_61 => ?_) (fun c_61 => ?_)
        · skip
          refine lv_null hx hb dX5_payerOfTie_69 ?_
          have hs : sX5_payerOfTie w c1 c2 = none := by unfold sX5_payerOfTie; rw [if_neg c_8, if_pos c_25, if_pos c_45, if_pos c_61]
          exact fin hJ (by rw [hs]; try rfl) dX5_payerOfTie_70
        · skip
          refine lv_aload hx hb dX5_payerOfTie_64 (lv_at hl 0 rfl) ?_
          refine lv_goto (tgt := 70) hx hb dX5_payerOfTie_66 (by decide) ?_
          have hs : sX5_payerOfTie w c1 c2 = some c1 := by unfold sX5_payerOfTie; rw [if_neg c_8, if_pos c_25, if_pos c_45, if_neg c_61]
          exact fin hJ (by rw [hs]; try rfl) dX5_payerOfTie_70
      · skip
        refine lv_aload_n hx hb dX5_payerOfTie_48 rfl (lv_at hl 1 rfl) ?_
        have hs : sX5_payerOfTie w c1 c2 = some c1 := by unfold sX5_payerOfTie; rw [if_neg c_8, if_pos c_25, if_neg c_45]
        exact fin hJ (by rw [hs]; try rfl) dX5_payerOfTie_49
    · skip
      refine lv_aload_n hx hb dX5_payerOfTie_28 rfl (lv_at hl 3 rfl) ?_
      refine lv_goto (tgt := 33) hx hb dX5_payerOfTie_29 (by decide) ?_
      refine lv_astore (lv' := [(4, .ref (B + (wo k + (17 + 3 * c2)))), (3, .ref (B + (wo k + (17 + 3 * c1)))), (0, .ref (B + wo k)), (1, .ref (B + (wo k + (17 + 3 * c1)))), (2, .ref (B + (wo k + (17 + 3 * c2))))]) hx hb dX5_payerOfTie_33 hl (by decide) rfl (fun ls hl => ?_)
      refine lv_aload_n hx hb dX5_payerOfTie_35 rfl (lv_at hl 1 rfl) ?_
      refine gX5_98 X hJ (k := k) (w := w) (by omega) (i := c1) (by omega)  hw dX5_payerOfTie_36 ?_
      refine lv_aload_n hx hb dX5_payerOfTie_39 rfl (lv_at hl 2 rfl) ?_
      refine gX5_9 X hJ (k := k) (w := w) (by omega) hw dX5_payerOfTie_40 ?_
      refine lv_iconst (v := 0) hx hb dX5_payerOfTie_43 (by decide) ?_
      refine ld_set X hJ (k := k) (w := w) (by omega) hw (j := 0) (by decide) (by omega) dX5_payerOfTie_44 ?_
      refine lv_icmp_lt (tgt := 50) hx hb dX5_payerOfTie_45 (by decide) (fun c_45 => ?_) (fun c_45 => ?_)
      · skip
        refine lv_aload hx hb dX5_payerOfTie_50 (lv_at hl 0 rfl) ?_
        refine gX5_98 X hJ (k := k) (w := w) (by omega) (i := c2) (by omega)  hw dX5_payerOfTie_52 ?_
        refine lv_aload_n hx hb dX5_payerOfTie_55 rfl (lv_at hl 2 rfl) ?_
        refine gX5_9 X hJ (k := k) (w := w) (by omega) hw dX5_payerOfTie_56 ?_
        refine lv_iconst (v := 0) hx hb dX5_payerOfTie_59 (by decide) ?_
        refine ld_set X hJ (k := k) (w := w) (by omega) hw (j := 0) (by decide) (by omega) dX5_payerOfTie_60 ?_
        refine lv_icmp_lt (tgt := 69) hx hb dX5_payerOfTie_61 (by decide) (fun c_61 => ?_) (fun c_61 => ?_)
        · skip
          refine lv_null hx hb dX5_payerOfTie_69 ?_
          have hs : sX5_payerOfTie w c1 c2 = none := by unfold sX5_payerOfTie; rw [if_neg c_8, if_neg c_25, if_pos c_45, if_pos c_61]
          exact fin hJ (by rw [hs]; try rfl) dX5_payerOfTie_70
        · skip
          refine lv_aload hx hb dX5_payerOfTie_64 (lv_at hl 0 rfl) ?_
          refine lv_goto (tgt := 70) hx hb dX5_payerOfTie_66 (by decide) ?_
          have hs : sX5_payerOfTie w c1 c2 = some c2 := by unfold sX5_payerOfTie; rw [if_neg c_8, if_neg c_25, if_pos c_45, if_neg c_61]
          exact fin hJ (by rw [hs]; try rfl) dX5_payerOfTie_70
      · skip
        refine lv_aload_n hx hb dX5_payerOfTie_48 rfl (lv_at hl 1 rfl) ?_
        have hs : sX5_payerOfTie w c1 c2 = some c1 := by unfold sX5_payerOfTie; rw [if_neg c_8, if_neg c_25, if_neg c_45]
        exact fin hJ (by rw [hs]; try rfl) dX5_payerOfTie_49

def sX5_comerOver (w : Row) (i : Nat) : Option Nat := oe (sX5_waiterAt w i 0) (oe (sX5_waiterAt w i 1) (none) (fun q2 => none)) (fun q1 => oe (sX5_waiterAt w i 1) (if w (104 + 8 * q1 + 4) < w (3) then (none) else (some q1)) (fun q3 => if (sX0_distance w i (w (104 + 8 * q3 + 3))) - (sX0_distance w i (w (104 + 8 * q1 + 3))) = 0 then (oe (sX5_payerOfTie w q1 q3) (none) (fun q4 => some q4)) else (if (sX0_distance w i (w (104 + 8 * q3 + 3))) - (sX0_distance w i (w (104 + 8 * q1 + 3))) ≤ 0 then (some q3) else (some q1))))
set_option maxHeartbeats 4000000 in
set_option maxRecDepth 100000 in
theorem mX5_comerOver (l : Launch) (E : EE) (B : Nat) (g : GS) (k : Nat) (i : Nat) (w : Row) (hk : k < 11) (hi : i < 12) (hw : g.1 k = w) (hcn : Cn w) : CG l yX5_comerOver cX5_comerOver 5 (some (.object "BridgeWardens$Cart")) 2 46 E B [.ref (B + wo k), .ref (B + (wo k + (5 + i)))] g (some (va_rf (((sX5_comerOver w i)).map (fun q => B + (wo k + (17 + 3 * q)))))) g := by
  refine mkR (own := RX5) (ty := (.object "BridgeWardens$Cart")) rfl (by decide) rfl ⟨_, rfl⟩ (Nat.le_of_ble_eq_true rfl) (fun P_ e_ s_ m_ a_ below meth cd Q X fin ls hl hJ => ?_)
  have hx := X.1
  have hb := X.2.1
  have hl : lv_has ls 5 [(0, .ref (B + wo k)), (1, .ref (B + (wo k + (5 + i))))] := hl
  refine lv_aload_n hx hb dX5_comerOver_0 rfl (lv_at hl 0 rfl) ?_
  refine lv_aload_n hx hb dX5_comerOver_1 rfl (lv_at hl 1 rfl) ?_
  refine lv_iconst (v := 0) hx hb dX5_comerOver_2 (by decide) ?_
  refine kX5_183 X hJ (mX5_waiterAt l E B _ k i 0 w (by omega) (by omega) hw (hcn)) rfl (lt_W0 (by omega)) (at_W (by omega) rfl) hl.1 ⟨Nat.le_of_ble_eq_true rfl, Nat.le_of_ble_eq_true rfl⟩ ⟨Nat.le_refl _, Nat.le_refl _⟩ (rest := []) rfl (Nat.le_of_ble_eq_true rfl) dX5_comerOver_3 (fun H locs hJ => ?_)
  rcases o_3 : sX5_waiterAt w i 0 with _ | q1
  · skip
    refine lv_astore_nN (lv' := [(2, .null), (0, .ref (B + wo k)), (1, .ref (B + (wo k + (5 + i))))]) hx hb dX5_comerOver_6 rfl hl (by decide) rfl (fun ls hl => ?_)
    refine lv_aload_n hx hb dX5_comerOver_7 rfl (lv_at hl 1 rfl) ?_
    refine lv_aload_n hx hb dX5_comerOver_8 rfl (lv_at hl 2 rfl) ?_
    refine lv_iconst (v := 1) hx hb dX5_comerOver_9 (by decide) ?_
    refine kX5_183 X hJ (mX5_waiterAt l E B _ k i 1 w (by omega) (by omega) hw (hcn)) rfl (lt_W0 (by omega)) (at_W (by omega) rfl) hl.1 ⟨Nat.le_of_ble_eq_true rfl, Nat.le_of_ble_eq_true rfl⟩ ⟨Nat.le_refl _, Nat.le_refl _⟩ (rest := []) rfl (Nat.le_of_ble_eq_true rfl) dX5_comerOver_10 (fun H locs hJ => ?_)
    rcases o_10 : sX5_waiterAt w i 1 with _ | q2
    · skip
      refine lv_astore_nN (lv' := [(3, .null), (2, .null), (0, .ref (B + wo k)), (1, .ref (B + (wo k + (5 + i))))]) hx hb dX5_comerOver_13 rfl hl (by decide) rfl (fun ls hl => ?_)
      refine lv_aload_nN hx hb dX5_comerOver_14 rfl (lv_at hl 1 rfl) ?_
      refine lv_ifnonnullN hx hb dX5_comerOver_15 ?_
      refine lv_null hx hb dX5_comerOver_18 ?_
      have hs : sX5_comerOver w i = none := by unfold sX5_comerOver; rw [oe_none o_3, oe_none o_10]
      exact fin hJ (by rw [hs]; try rfl) dX5_comerOver_19
    · skip
      have hq2 := waiterAt_some (hcn) o_10
      refine lv_astore_n (lv' := [(3, .ref (B + (wo k + (17 + 3 * q2)))), (2, .null), (0, .ref (B + wo k)), (1, .ref (B + (wo k + (5 + i))))]) hx hb dX5_comerOver_13 rfl hl (by decide) rfl (fun ls hl => ?_)
      refine lv_aload_nN hx hb dX5_comerOver_14 rfl (lv_at hl 1 rfl) ?_
      refine lv_ifnonnullN hx hb dX5_comerOver_15 ?_
      refine lv_null hx hb dX5_comerOver_18 ?_
      have hs : sX5_comerOver w i = none := by unfold sX5_comerOver; rw [oe_none o_3, oe_some o_10]
      exact fin hJ (by rw [hs]; try rfl) dX5_comerOver_19
  · skip
    have hq1 := waiterAt_some (hcn) o_3
    refine lv_astore_n (lv' := [(2, .ref (B + (wo k + (17 + 3 * q1)))), (0, .ref (B + wo k)), (1, .ref (B + (wo k + (5 + i))))]) hx hb dX5_comerOver_6 rfl hl (by decide) rfl (fun ls hl => ?_)
    refine lv_aload_n hx hb dX5_comerOver_7 rfl (lv_at hl 1 rfl) ?_
    refine lv_aload_n hx hb dX5_comerOver_8 rfl (lv_at hl 2 rfl) ?_
    refine lv_iconst (v := 1) hx hb dX5_comerOver_9 (by decide) ?_
    refine kX5_183 X hJ (mX5_waiterAt l E B _ k i 1 w (by omega) (by omega) hw (hcn)) rfl (lt_W0 (by omega)) (at_W (by omega) rfl) hl.1 ⟨Nat.le_of_ble_eq_true rfl, Nat.le_of_ble_eq_true rfl⟩ ⟨Nat.le_refl _, Nat.le_refl _⟩ (rest := []) rfl (Nat.le_of_ble_eq_true rfl) dX5_comerOver_10 (fun H locs hJ => ?_)
    rcases o_10 : sX5_waiterAt w i 1 with _ | q3
    · skip
      refine lv_astore_nN (lv' := [(3, .null), (2, .ref (B + (wo k + (17 + 3 * q1)))), (0, .ref (B + wo k)), (1, .ref (B + (wo k + (5 + i))))]) hx hb dX5_comerOver_13 rfl hl (by decide) rfl (fun ls hl => ?_)
      refine lv_aload_n hx hb dX5_comerOver_14 rfl (lv_at hl 1 rfl) ?_
      refine lv_ifnonnull (tgt := 20) hx hb dX5_comerOver_15 (by decide) ?_
      refine lv_aload_nN hx hb dX5_comerOver_20 rfl (lv_at hl 0 rfl) ?_
      refine lv_ifnonnullN hx hb dX5_comerOver_21 ?_
      refine lv_aload_n hx hb dX5_comerOver_24 rfl (lv_at hl 1 rfl) ?_
      refine gX5_149 X hJ (k := k) (w := w) (by omega) (i := q1) (by omega)  hw dX5_comerOver_25 ?_
      refine lv_aload_n hx hb dX5_comerOver_28 rfl (lv_at hl 2 rfl) ?_
      refine gX5_9 X hJ (k := k) (w := w) (by omega) hw dX5_comerOver_29 ?_
      refine lv_iconst (v := 3) hx hb dX5_comerOver_32 (by decide) ?_
      refine ld_set X hJ (k := k) (w := w) (by omega) hw (j := 3) (by decide) (by omega) dX5_comerOver_33 ?_
      refine lv_icmp_lt (tgt := 41) hx hb dX5_comerOver_34 (by decide) (fun c_34 => ?_) (fun c_34 => ?_)
      · skip
        refine lv_null hx hb dX5_comerOver_41 ?_
        have hs : sX5_comerOver w i = none := by unfold sX5_comerOver; rw [oe_some o_3, oe_none o_10, if_pos c_34]
        exact fin hJ (by rw [hs]; try rfl) dX5_comerOver_42
      · skip
        refine lv_aload_n hx hb dX5_comerOver_37 rfl (lv_at hl 1 rfl) ?_
        refine lv_goto (tgt := 42) hx hb dX5_comerOver_38 (by decide) ?_
        have hs : sX5_comerOver w i = some q1 := by unfold sX5_comerOver; rw [oe_some o_3, oe_none o_10, if_neg c_34]
        exact fin hJ (by rw [hs]; try rfl) dX5_comerOver_42
    · skip
      have hq3 := waiterAt_some (hcn) o_10
      refine lv_astore_n (lv' := [(3, .ref (B + (wo k + (17 + 3 * q3)))), (2, .ref (B + (wo k + (17 + 3 * q1)))), (0, .ref (B + wo k)), (1, .ref (B + (wo k + (5 + i))))]) hx hb dX5_comerOver_13 rfl hl (by decide) rfl (fun ls hl => ?_)
      refine lv_aload_n hx hb dX5_comerOver_14 rfl (lv_at hl 1 rfl) ?_
      refine lv_ifnonnull (tgt := 20) hx hb dX5_comerOver_15 (by decide) ?_
      refine lv_aload_n hx hb dX5_comerOver_20 rfl (lv_at hl 0 rfl) ?_
      refine lv_ifnonnull (tgt := 43) hx hb dX5_comerOver_21 (by decide) ?_
      refine lv_aload_n hx hb dX5_comerOver_43 rfl (lv_at hl 3 rfl) ?_
      refine lv_aload_n hx hb dX5_comerOver_44 rfl (lv_at hl 0 rfl) ?_
      refine gX5_121 X hJ (k := k) (w := w) (by omega) (i := q3) (by omega)  hw dX5_comerOver_45 ?_
      refine kX5_187 X hJ (mX0_distance l E B _ k i (w (104 + 8 * q3 + 3)) w (by omega) (by omega) hw) rfl (lt_W (by omega) (by omega)) (at_B (by omega) (by omega) hw) hl.1 ⟨Nat.le_of_ble_eq_true rfl, Nat.le_of_ble_eq_true rfl⟩ ⟨Nat.le_refl _, Nat.le_refl _⟩ (rest := []) rfl (Nat.le_of_ble_eq_true rfl) dX5_comerOver_48 (fun H locs hJ => ?_)
      refine lv_aload_n hx hb dX5_comerOver_51 rfl (lv_at hl 3 rfl) ?_
      refine lv_aload_n hx hb dX5_comerOver_52 rfl (lv_at hl 1 rfl) ?_
      refine gX5_121 X hJ (k := k) (w := w) (by omega) (i := q1) (by omega)  hw dX5_comerOver_53 ?_
      refine kX5_187 X hJ (mX0_distance l E B _ k i (w (104 + 8 * q1 + 3)) w (by omega) (by omega) hw) rfl (lt_W (by omega) (by omega)) (at_B (by omega) (by omega) hw) hl.1 ⟨Nat.le_of_ble_eq_true rfl, Nat.le_of_ble_eq_true rfl⟩ ⟨Nat.le_refl _, Nat.le_refl _⟩ (rest := [.int (sX0_distance w i (w (104 + 8 * q3 + 3)))]) rfl (Nat.le_of_ble_eq_true rfl) dX5_comerOver_56 (fun H locs hJ => ?_)
      refine lv_isub hx hb dX5_comerOver_59 ?_
      refine lv_istore (lv' := [(4, .int ((sX0_distance w i (w (104 + 8 * q3 + 3))) - (sX0_distance w i (w (104 + 8 * q1 + 3))))), (3, .ref (B + (wo k + (17 + 3 * q3)))), (2, .ref (B + (wo k + (17 + 3 * q1)))), (0, .ref (B + wo k)), (1, .ref (B + (wo k + (5 + i))))]) hx hb dX5_comerOver_60 hl (by decide) rfl (fun ls hl => ?_)
      refine lv_iload hx hb dX5_comerOver_62 (lv_at hl 0 rfl) ?_
      refine lv_if_ne (tgt := 74) hx hb dX5_comerOver_64 (by decide) (fun c_64 => ?_) (fun c_64 => ?_)
      · skip
        refine lv_iload hx hb dX5_comerOver_74 (lv_at hl 0 rfl) ?_
        refine lv_if_le (tgt := 83) hx hb dX5_comerOver_76 (by decide) (fun c_76 => ?_) (fun c_76 => ?_)
        · skip
          refine lv_aload_n hx hb dX5_comerOver_83 rfl (lv_at hl 1 rfl) ?_
          have hs : sX5_comerOver w i = some q3 := by unfold sX5_comerOver; rw [oe_some o_3, oe_some o_10, if_neg c_64, if_pos c_76]
          exact fin hJ (by rw [hs]; try rfl) dX5_comerOver_84
        · skip
          refine lv_aload_n hx hb dX5_comerOver_79 rfl (lv_at hl 2 rfl) ?_
          refine lv_goto (tgt := 84) hx hb dX5_comerOver_80 (by decide) ?_
          have hs : sX5_comerOver w i = some q1 := by unfold sX5_comerOver; rw [oe_some o_3, oe_some o_10, if_neg c_64, if_neg c_76]
          exact fin hJ (by rw [hs]; try rfl) dX5_comerOver_84
      · skip
        refine lv_aload_n hx hb dX5_comerOver_67 rfl (lv_at hl 3 rfl) ?_
        refine lv_aload_n hx hb dX5_comerOver_68 rfl (lv_at hl 2 rfl) ?_
        refine lv_aload_n hx hb dX5_comerOver_69 rfl (lv_at hl 1 rfl) ?_
        refine kX5_190 X hJ (mX5_payerOfTie l E B _ k q1 q3 w (by omega) (by omega) (by omega) hw) rfl (lt_W0 (by omega)) (at_W (by omega) rfl) hl.1 ⟨Nat.le_of_ble_eq_true rfl, Nat.le_of_ble_eq_true rfl⟩ ⟨Nat.le_refl _, Nat.le_refl _⟩ (rest := []) rfl (Nat.le_of_ble_eq_true rfl) dX5_comerOver_70 (fun H locs hJ => ?_)
        rcases o_70 : sX5_payerOfTie w q1 q3 with _ | q4
        · skip
          have hs : sX5_comerOver w i = none := by unfold sX5_comerOver; rw [oe_some o_3, oe_some o_10, if_pos c_64, oe_none o_70]
          exact fin hJ (by rw [hs]; try rfl) dX5_comerOver_73
        · skip
          have hs : sX5_comerOver w i = some q4 := by unfold sX5_comerOver; rw [oe_some o_3, oe_some o_10, if_pos c_64, oe_some o_70]
          exact fin hJ (by rw [hs]; try rfl) dX5_comerOver_73

theorem payerOfTie_some {w : Row} {c1 c2 q : Nat} (h1 : c1 < 8) (h2 : c2 < 8) (h : sX5_payerOfTie w c1 c2 = some q) : q < 8 := by
  unfold sX5_payerOfTie at h
  repeat' split at h
  all_goals first | (cases h; omega) | cases h
theorem comerOver_some {w : Row} {i : Nat} {q : Nat} (hi : i < 12) (hcn : Cn w) (h : sX5_comerOver w i = some q) : q < 8 := by
  unfold sX5_comerOver at h
  rcases h1 : sX5_waiterAt w i 0 with _ | a
  · rw [oe_none h1] at h
    rcases h2 : sX5_waiterAt w i 1 with _ | b
    · rw [oe_none h2] at h; cases h
    · rw [oe_some h2] at h; cases h
  · rw [oe_some h1] at h
    have ha := waiterAt_some hcn h1
    rcases h2 : sX5_waiterAt w i 1 with _ | b
    · rw [oe_none h2] at h
      split at h
      · cases h
      · cases h; exact ha
    · rw [oe_some h2] at h
      have hb := waiterAt_some hcn h2
      split at h
      · rcases h3 : sX5_payerOfTie w a b with _ | d
        · rw [oe_none h3] at h; cases h
        · rw [oe_some h3] at h; cases h; exact payerOfTie_some ha hb h3
      · split at h
        · cases h; exact hb
        · cases h; exact ha
def sX5_isTied (w : Row) (i : Nat) : Int32 := oe (sX5_waiterAt w i 0) (oe (sX5_waiterAt w i 1) (0) (fun q2 => 0)) (fun q1 => oe (sX5_waiterAt w i 1) (0) (fun q3 => if sX0_distance w i (w (104 + 8 * q1 + 3)) = sX0_distance w i (w (104 + 8 * q3 + 3)) then (1) else (0)))
set_option maxHeartbeats 4000000 in
set_option maxRecDepth 100000 in
theorem mX5_isTied (l : Launch) (E : EE) (B : Nat) (g : GS) (k : Nat) (i : Nat) (w : Row) (hk : k < 11) (hi : i < 12) (hw : g.1 k = w) (hcn : Cn w) : CG l yX5_isTied cX5_isTied 4 (some .boolean) 2 46 E B [.ref (B + wo k), .ref (B + (wo k + (5 + i)))] g (some (.int (sX5_isTied w i))) g := by
  refine mkI (own := RX5) (ty := .boolean) rfl (by decide) rfl (by unfold sX5_isTied; rcases sX5_waiterAt w i 0 with _ | a <;> rcases sX5_waiterAt w i 1 with _ | b <;> (simp only [oe]; (repeat' split) <;> rfl)) (Nat.le_of_ble_eq_true rfl) (fun P_ e_ s_ m_ a_ below meth cd Q X fin ls hl hJ => ?_)
  have hx := X.1
  have hb := X.2.1
  have hl : lv_has ls 4 [(0, .ref (B + wo k)), (1, .ref (B + (wo k + (5 + i))))] := hl
  refine lv_aload_n hx hb dX5_isTied_0 rfl (lv_at hl 0 rfl) ?_
  refine lv_aload_n hx hb dX5_isTied_1 rfl (lv_at hl 1 rfl) ?_
  refine lv_iconst (v := 0) hx hb dX5_isTied_2 (by decide) ?_
  refine kX5_183 X hJ (mX5_waiterAt l E B _ k i 0 w (by omega) (by omega) hw (hcn)) rfl (lt_W0 (by omega)) (at_W (by omega) rfl) hl.1 ⟨Nat.le_of_ble_eq_true rfl, Nat.le_of_ble_eq_true rfl⟩ ⟨Nat.le_refl _, Nat.le_refl _⟩ (rest := []) rfl (Nat.le_of_ble_eq_true rfl) dX5_isTied_3 (fun H locs hJ => ?_)
  rcases o_3 : sX5_waiterAt w i 0 with _ | q1
  · skip
    refine lv_astore_nN (lv' := [(2, .null), (0, .ref (B + wo k)), (1, .ref (B + (wo k + (5 + i))))]) hx hb dX5_isTied_6 rfl hl (by decide) rfl (fun ls hl => ?_)
    refine lv_aload_n hx hb dX5_isTied_7 rfl (lv_at hl 1 rfl) ?_
    refine lv_aload_n hx hb dX5_isTied_8 rfl (lv_at hl 2 rfl) ?_
    refine lv_iconst (v := 1) hx hb dX5_isTied_9 (by decide) ?_
    refine kX5_183 X hJ (mX5_waiterAt l E B _ k i 1 w (by omega) (by omega) hw (hcn)) rfl (lt_W0 (by omega)) (at_W (by omega) rfl) hl.1 ⟨Nat.le_of_ble_eq_true rfl, Nat.le_of_ble_eq_true rfl⟩ ⟨Nat.le_refl _, Nat.le_refl _⟩ (rest := []) rfl (Nat.le_of_ble_eq_true rfl) dX5_isTied_10 (fun H locs hJ => ?_)
    rcases o_10 : sX5_waiterAt w i 1 with _ | q2
    · skip
      refine lv_astore_nN (lv' := [(3, .null), (2, .null), (0, .ref (B + wo k)), (1, .ref (B + (wo k + (5 + i))))]) hx hb dX5_isTied_13 rfl hl (by decide) rfl (fun ls hl => ?_)
      refine lv_aload_nN hx hb dX5_isTied_14 rfl (lv_at hl 1 rfl) ?_
      refine lv_ifnullN (tgt := 45) hx hb dX5_isTied_15 (by decide) ?_
      refine lv_iconst (v := 0) hx hb dX5_isTied_45 (by decide) ?_
      have hs : sX5_isTied w i = 0 := by unfold sX5_isTied; rw [oe_none o_3, oe_none o_10]
      exact fin hJ (by rw [hs]) dX5_isTied_46
    · skip
      have hq2 := waiterAt_some (hcn) o_10
      refine lv_astore_n (lv' := [(3, .ref (B + (wo k + (17 + 3 * q2)))), (2, .null), (0, .ref (B + wo k)), (1, .ref (B + (wo k + (5 + i))))]) hx hb dX5_isTied_13 rfl hl (by decide) rfl (fun ls hl => ?_)
      refine lv_aload_nN hx hb dX5_isTied_14 rfl (lv_at hl 1 rfl) ?_
      refine lv_ifnullN (tgt := 45) hx hb dX5_isTied_15 (by decide) ?_
      refine lv_iconst (v := 0) hx hb dX5_isTied_45 (by decide) ?_
      have hs : sX5_isTied w i = 0 := by unfold sX5_isTied; rw [oe_none o_3, oe_some o_10]
      exact fin hJ (by rw [hs]) dX5_isTied_46
  · skip
    have hq1 := waiterAt_some (hcn) o_3
    refine lv_astore_n (lv' := [(2, .ref (B + (wo k + (17 + 3 * q1)))), (0, .ref (B + wo k)), (1, .ref (B + (wo k + (5 + i))))]) hx hb dX5_isTied_6 rfl hl (by decide) rfl (fun ls hl => ?_)
    refine lv_aload_n hx hb dX5_isTied_7 rfl (lv_at hl 1 rfl) ?_
    refine lv_aload_n hx hb dX5_isTied_8 rfl (lv_at hl 2 rfl) ?_
    refine lv_iconst (v := 1) hx hb dX5_isTied_9 (by decide) ?_
    refine kX5_183 X hJ (mX5_waiterAt l E B _ k i 1 w (by omega) (by omega) hw (hcn)) rfl (lt_W0 (by omega)) (at_W (by omega) rfl) hl.1 ⟨Nat.le_of_ble_eq_true rfl, Nat.le_of_ble_eq_true rfl⟩ ⟨Nat.le_refl _, Nat.le_refl _⟩ (rest := []) rfl (Nat.le_of_ble_eq_true rfl) dX5_isTied_10 (fun H locs hJ => ?_)
    rcases o_10 : sX5_waiterAt w i 1 with _ | q3
    · skip
      refine lv_astore_nN (lv' := [(3, .null), (2, .ref (B + (wo k + (17 + 3 * q1)))), (0, .ref (B + wo k)), (1, .ref (B + (wo k + (5 + i))))]) hx hb dX5_isTied_13 rfl hl (by decide) rfl (fun ls hl => ?_)
      refine lv_aload_n hx hb dX5_isTied_14 rfl (lv_at hl 1 rfl) ?_
      refine lv_ifnull hx hb dX5_isTied_15 ?_
      refine lv_aload_nN hx hb dX5_isTied_18 rfl (lv_at hl 0 rfl) ?_
      refine lv_ifnullN (tgt := 45) hx hb dX5_isTied_19 (by decide) ?_
      refine lv_iconst (v := 0) hx hb dX5_isTied_45 (by decide) ?_
      have hs : sX5_isTied w i = 0 := by unfold sX5_isTied; rw [oe_some o_3, oe_none o_10]
      exact fin hJ (by rw [hs]) dX5_isTied_46
    · skip
      have hq3 := waiterAt_some (hcn) o_10
      refine lv_astore_n (lv' := [(3, .ref (B + (wo k + (17 + 3 * q3)))), (2, .ref (B + (wo k + (17 + 3 * q1)))), (0, .ref (B + wo k)), (1, .ref (B + (wo k + (5 + i))))]) hx hb dX5_isTied_13 rfl hl (by decide) rfl (fun ls hl => ?_)
      refine lv_aload_n hx hb dX5_isTied_14 rfl (lv_at hl 1 rfl) ?_
      refine lv_ifnull hx hb dX5_isTied_15 ?_
      refine lv_aload_n hx hb dX5_isTied_18 rfl (lv_at hl 0 rfl) ?_
      refine lv_ifnull hx hb dX5_isTied_19 ?_
      refine lv_aload_n hx hb dX5_isTied_22 rfl (lv_at hl 3 rfl) ?_
      refine lv_aload_n hx hb dX5_isTied_23 rfl (lv_at hl 1 rfl) ?_
      refine gX5_121 X hJ (k := k) (w := w) (by omega) (i := q1) (by omega)  hw dX5_isTied_24 ?_
      refine kX5_187 X hJ (mX0_distance l E B _ k i (w (104 + 8 * q1 + 3)) w (by omega) (by omega) hw) rfl (lt_W (by omega) (by omega)) (at_B (by omega) (by omega) hw) hl.1 ⟨Nat.le_of_ble_eq_true rfl, Nat.le_of_ble_eq_true rfl⟩ ⟨Nat.le_refl _, Nat.le_refl _⟩ (rest := []) rfl (Nat.le_of_ble_eq_true rfl) dX5_isTied_27 (fun H locs hJ => ?_)
      refine lv_aload_n hx hb dX5_isTied_30 rfl (lv_at hl 3 rfl) ?_
      refine lv_aload_n hx hb dX5_isTied_31 rfl (lv_at hl 0 rfl) ?_
      refine gX5_121 X hJ (k := k) (w := w) (by omega) (i := q3) (by omega)  hw dX5_isTied_32 ?_
      refine kX5_187 X hJ (mX0_distance l E B _ k i (w (104 + 8 * q3 + 3)) w (by omega) (by omega) hw) rfl (lt_W (by omega) (by omega)) (at_B (by omega) (by omega) hw) hl.1 ⟨Nat.le_of_ble_eq_true rfl, Nat.le_of_ble_eq_true rfl⟩ ⟨Nat.le_refl _, Nat.le_refl _⟩ (rest := [.int (sX0_distance w i (w (104 + 8 * q1 + 3)))]) rfl (Nat.le_of_ble_eq_true rfl) dX5_isTied_35 (fun H locs hJ => ?_)
      refine lv_icmp_ne (tgt := 45) hx hb dX5_isTied_38 (by decide) (fun c_38 => ?_) (fun c_38 => ?_)
      · skip
        refine lv_iconst (v := 0) hx hb dX5_isTied_45 (by decide) ?_
        have hs : sX5_isTied w i = 0 := by unfold sX5_isTied; rw [oe_some o_3, oe_some o_10, if_neg c_38]
        exact fin hJ (by rw [hs]) dX5_isTied_46
      · skip
        refine lv_iconst (v := 1) hx hb dX5_isTied_41 (by decide) ?_
        refine lv_goto (tgt := 46) hx hb dX5_isTied_42 (by decide) ?_
        have hs : sX5_isTied w i = 1 := by unfold sX5_isTied; rw [oe_some o_3, oe_some o_10, if_pos c_38]
        exact fin hJ (by rw [hs]) dX5_isTied_46

