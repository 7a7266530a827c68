def bL_notes_330 (gg : GS) (v2 : Int32) : Int32 × GS := if sX6_sign gg.2.1 v2 = (-1) then (if (sX6_wipe gg.2.1).1 = v2 then ((1, upC gg (sX6_wipe gg.2.1).2)) else ((0, upC gg (sX6_wipe gg.2.1).2))) else ((0, gg))
def bL_notes_297 (K246 : GS → Int32 → Int32 → Int32 → Int32 → Int32 → Nat → Int32 × GS) (gg : GS) (v1 : Int32) (v2 : Int32) (v3 : Int32) (v6 : Int32) (v7 : Int32) (v8 : Nat) : Int32 × GS := K246 gg v1 v2 v3 v6 v7 (v8 + 1)
def bL_notes_246 : Nat → GS → Int32 → Int32 → Int32 → Int32 → Int32 → Nat → Int32 × GS
  | 0, gg, _, _, _, _, _, _ => (0, gg)
  | n + 1, gg, v1, v2, v3, v6, v7, v8 => if sX6_count gg 1 ≤ nI v8 then (if v3 = 0 then ((0, gg)) else (if 80 ≤ v2 then (if v7 < v6 then ((0, gg)) else (bL_notes_330 gg v2)) else (if v6 = v7 then (bL_notes_330 gg v2) else ((0, gg))))) else (if 0 < sX6_knows gg v1 (nI v8) 0 then (bL_notes_297 (bL_notes_246 n) gg v1 v2 v3 v6 (v7 + 1) v8) else (if (sX6_ofBridge gg (nI v8) 2) - 1 ≤ sX6_knows gg v1 (nI v8) 1 then (bL_notes_297 (bL_notes_246 n) gg v1 v2 v3 v6 (v7 + 0) v8) else (bL_notes_297 (bL_notes_246 n) gg v1 v2 v3 v6 (v7 + 1) v8)))
def bL_notes_234 (K207 : GS → Int32 → Int32 → Int32 → Int32 → Nat → Int32 × GS) (gg : GS) (v1 : Int32) (v2 : Int32) (v3 : Int32) (v6 : Int32) (v7 : Nat) : Int32 × GS := K207 gg v1 v2 v3 v6 (v7 + 1)
def bL_notes_207 : Nat → GS → Int32 → Int32 → Int32 → Int32 → Nat → Int32 × GS
  | 0, gg, _, _, _, _, _ => (0, gg)
  | n + 1, gg, v1, v2, v3, v6, v7 => if v2 ≤ nI v7 then (bL_notes_246 13 gg v1 v2 v3 v6 0 0) else (if sX6_sign gg.2.1 (nI v7) = 59 then (bL_notes_234 (bL_notes_207 n) gg v1 v2 v3 (v6 + 1) v7) else (bL_notes_234 (bL_notes_207 n) gg v1 v2 v3 (v6 + 0) v7))
def bL_notes_199 (gg : GS) (v1 : Int32) (v2 : Int32) : Int32 × GS := bL_notes_207 (nn v2 + 1) gg v1 v2 0 0 0
def bL_notes_195 (gg : GS) (v1 : Int32) (v2 : Int32) : Int32 × GS := bL_notes_207 (nn v2 + 1) gg v1 v2 1 0 0
def bL_notes_163 (gg : GS) (v1 : Int32) (v2 : Int32) (v3 : Int32) (v4 : Int32) (v5 : Int32) : Int32 × GS := if v3 = 0 then (bL_notes_199 gg v1 v2) else (if v4 = sX6_ofCart gg v1 1 then (if v5 = v2 then (bL_notes_195 gg v1 v2) else (if sX6_sign gg.2.1 v5 = 59 then (bL_notes_195 gg v1 v2) else (bL_notes_199 gg v1 v2))) else (bL_notes_199 gg v1 v2))
def bL_notes_118 : Nat → GS → Int32 → Int32 → Int32 → Int32 → Nat → Int32 × GS
  | 0, gg, _, _, _, _, _ => (0, gg)
  | n + 1, gg, v1, v2, v3, v4, v5 => if sX6_sign gg.2.1 (nI v5) < 48 then (bL_notes_163 gg v1 v2 v3 v4 (nI v5)) else (if 57 < sX6_sign gg.2.1 (nI v5) then (bL_notes_163 gg v1 v2 v3 v4 (nI v5)) else (bL_notes_118 n gg v1 v2 v3 (((10 * v4) + (sX6_sign gg.2.1 (nI v5))) - 48) (v5 + 1)))
def bL_notes_110 (gg : GS) (v1 : Int32) (v2 : Int32) : Int32 × GS := bL_notes_118 81 gg v1 v2 0 0 5
def bL_notes_6 (gg : GS) (v1 : Int32) (v2 : Int32) : Int32 × GS := if v1 = sX6_count gg 2 then (if v2 = (-1) then ((1, gg)) else ((0, gg))) else (if v2 = sX6_count gg 13 then (if v2 ≤ 5 then (bL_notes_110 gg v1 v2) else (if 80 < v2 then (bL_notes_110 gg v1 v2) else (if sX6_sign gg.2.1 0 = 99 then (if sX6_sign gg.2.1 1 = 48 + v1 then (if sX6_sign gg.2.1 2 = 64 then (if sX6_sign gg.2.1 3 = 48 + (sX6_ofCart gg v1 0) then (if sX6_sign gg.2.1 4 = 42 then (bL_notes_118 81 gg v1 v2 1 0 5) else (bL_notes_110 gg v1 v2)) else (bL_notes_110 gg v1 v2)) else (bL_notes_110 gg v1 v2)) else (bL_notes_110 gg v1 v2)) else (bL_notes_110 gg v1 v2)))) else (bL_notes_110 gg v1 v2))
def sL_notes (g : GS) (a1 : Int32) : Int32 × GS := bL_notes_6 (upC g (sX6_write g.2.1 (g.1 0) a1).2) a1 ((sX6_write g.2.1 (g.1 0) a1).1)
theorem b01_bL_notes_330 {gg : GS} {v2 : Int32} : b01 (bL_notes_330 gg v2).1 := by
  unfold bL_notes_330
  exact b01_i2 (b01_i2 (Or.inr rfl) (Or.inl rfl)) (Or.inl rfl)
theorem b01_bL_notes_297 {K246 : GS → Int32 → Int32 → Int32 → Int32 → Int32 → Nat → Int32 × GS} (hK246 : ∀ (x0 : GS) (x1 : Int32) (x2 : Int32) (x3 : Int32) (x4 : Int32) (x5 : Int32) (x6 : Nat), b01 (K246 x0 x1 x2 x3 x4 x5 x6).1) {gg : GS} {v1 : Int32} {v2 : Int32} {v3 : Int32} {v6 : Int32} {v7 : Int32} {v8 : Nat} : b01 (bL_notes_297 K246 gg v1 v2 v3 v6 v7 v8).1 := by
  unfold bL_notes_297
  exact hK246 _ _ _ _ _ _ _
theorem b01_bL_notes_246 : ∀ (n : Nat) (gg : GS) (v1 : Int32) (v2 : Int32) (v3 : Int32) (v6 : Int32) (v7 : Int32) (v8 : Nat), b01 (bL_notes_246 n gg v1 v2 v3 v6 v7 v8).1 := by
  intro n
  induction n with
  | zero => intro gg v1 v2 v3 v6 v7 v8; exact Or.inl rfl
  | succ n ih =>
    intro gg v1 v2 v3 v6 v7 v8
    rw [bL_notes_246]
    exact b01_i2 (b01_i2 (Or.inl rfl) (b01_i2 (b01_i2 (Or.inl rfl) (b01_bL_notes_330)) (b01_i2 (b01_bL_notes_330) (Or.inl rfl)))) (b01_i2 (b01_bL_notes_297 ih) (b01_i2 (b01_bL_notes_297 ih) (b01_bL_notes_297 ih)))
theorem b01_bL_notes_234 {K207 : GS → Int32 → Int32 → Int32 → Int32 → Nat → Int32 × GS} (hK207 : ∀ (x0 : GS) (x1 : Int32) (x2 : Int32) (x3 : Int32) (x4 : Int32) (x5 : Nat), b01 (K207 x0 x1 x2 x3 x4 x5).1) {gg : GS} {v1 : Int32} {v2 : Int32} {v3 : Int32} {v6 : Int32} {v7 : Nat} : b01 (bL_notes_234 K207 gg v1 v2 v3 v6 v7).1 := by
  unfold bL_notes_234
  exact hK207 _ _ _ _ _ _
theorem b01_bL_notes_207 : ∀ (n : Nat) (gg : GS) (v1 : Int32) (v2 : Int32) (v3 : Int32) (v6 : Int32) (v7 : Nat), b01 (bL_notes_207 n gg v1 v2 v3 v6 v7).1 := by
  intro n
  induction n with
  | zero => intro gg v1 v2 v3 v6 v7; exact Or.inl rfl
  | succ n ih =>
    intro gg v1 v2 v3 v6 v7
    rw [bL_notes_207]
    exact b01_i2 (b01_bL_notes_246 _ _ _ _ _ _ _ _) (b01_i2 (b01_bL_notes_234 ih) (b01_bL_notes_234 ih))
theorem b01_bL_notes_199 {gg : GS} {v1 : Int32} {v2 : Int32} : b01 (bL_notes_199 gg v1 v2).1 := by
  unfold bL_notes_199
  exact b01_bL_notes_207 _ _ _ _ _ _ _
theorem b01_bL_notes_195 {gg : GS} {v1 : Int32} {v2 : Int32} : b01 (bL_notes_195 gg v1 v2).1 := by
  unfold bL_notes_195
  exact b01_bL_notes_207 _ _ _ _ _ _ _
theorem b01_bL_notes_163 {gg : GS} {v1 : Int32} {v2 : Int32} {v3 : Int32} {v4 : Int32} {v5 : Int32} : b01 (bL_notes_163 gg v1 v2 v3 v4 v5).1 := by
  unfold bL_notes_163
  exact b01_i2 (b01_bL_notes_199) (b01_i2 (b01_i2 (b01_bL_notes_195) (b01_i2 (b01_bL_notes_195) (b01_bL_notes_199))) (b01_bL_notes_199))
theorem b01_bL_notes_118 : ∀ (n : Nat) (gg : GS) (v1 : Int32) (v2 : Int32) (v3 : Int32) (v4 : Int32) (v5 : Nat), b01 (bL_notes_118 n gg v1 v2 v3 v4 v5).1 := by
  intro n
  induction n with
  | zero => intro gg v1 v2 v3 v4 v5; exact Or.inl rfl
  | succ n ih =>
    intro gg v1 v2 v3 v4 v5
    rw [bL_notes_118]
    exact b01_i2 (b01_bL_notes_163) (b01_i2 (b01_bL_notes_163) (ih _ _ _ _ _ _))
theorem b01_bL_notes_110 {gg : GS} {v1 : Int32} {v2 : Int32} : b01 (bL_notes_110 gg v1 v2).1 := by
  unfold bL_notes_110
  exact b01_bL_notes_118 _ _ _ _ _ _ _
theorem b01_bL_notes_6 {gg : GS} {v1 : Int32} {v2 : Int32} : b01 (bL_notes_6 gg v1 v2).1 := by
  unfold bL_notes_6
  exact b01_i2 (b01_i2 (Or.inr rfl) (Or.inl rfl)) (b01_i2 (b01_i2 (b01_bL_notes_110) (b01_i2 (b01_bL_notes_110) (b01_i2 (b01_i2 (b01_i2 (b01_i2 (b01_i2 (b01_bL_notes_118 _ _ _ _ _ _ _) (b01_bL_notes_110)) (b01_bL_notes_110)) (b01_bL_notes_110)) (b01_bL_notes_110)) (b01_bL_notes_110)))) (b01_bL_notes_110))
theorem b01_sL_notes {g : GS} {a1 : Int32} : b01 (sL_notes g a1).1 := by
  unfold sL_notes
  exact b01_bL_notes_6
set_option maxHeartbeats 4000000 in
set_option maxRecDepth 100000 in
theorem mL_notes (l : Launch) (E : EE) (B : Nat) (g : GS) (a1 : Int32) (hgn : Gn g) : CG l yL_notes cL_notes 9 (some .boolean) 4 88 E B [.ref (B + 0), .int a1] g (some (.int (sL_notes g a1).1)) ((sL_notes g a1).2) := by
  refine mkI (own := RL) (ty := .boolean) rfl (by decide) rfl ((b01_sL_notes).nar) (Nat.le_of_ble_eq_true rfl) (fun P_ e_ s_ m_ a_ below meth cd Q X fin ls hl hJ => ?_)
  have hx := X.1
  have hb := X.2.1
  have hl : lv_has ls 9 [(0, .ref (B + 0)), (1, .int a1)] := hl
  have bk_330 : ∀ (gg : GS) (v2 : Int32), (Gn gg) → ∀ (H : Heap) (locs : List Loc) (ls : Array Slot), JG E B s_ gg H locs → lv_has ls 9 [(0, .ref (B + 0)), (2, .int v2)] → sL_notes g a1 = bL_notes_330 gg v2 → W P_ l e_ (rmm 4 88 0 0) s_ m_ a_ below meth cd H locs 0 0 Q (F0 m_ 330 ls []) := by
    intro gg v2 hgn H locs ls hJ hl hs
    refine lv_aload_n hx hb dL_notes_330 rfl (lv_at hl 0 rfl) ?_
    refine lv_iload_n hx hb dL_notes_331 rfl (lv_at hl 1 rfl) ?_
    refine kL_71 X hJ (mX6_sign l E B _ v2 gg.2.1 rfl ((hgn).2.1)) rfl (by omega) at_X hl.1 ⟨Nat.le_of_ble_eq_true rfl, Nat.le_of_ble_eq_true rfl⟩ ⟨Nat.le_refl _, Nat.le_refl _⟩ (rest := []) rfl (Nat.le_of_ble_eq_true rfl) dL_notes_332 (fun H locs hJ => ?_)
    refine lv_iconst (v := (-1)) hx hb dL_notes_335 (by decide) ?_
    refine lv_icmp_ne (tgt := 351) hx hb dL_notes_336 (by decide) (fun c_336 => ?_) (fun c_336 => ?_)
    · skip
      refine lv_iconst (v := 0) hx hb dL_notes_351 (by decide) ?_
      have hs : sL_notes g a1 = (0, gg) := hs.trans (by unfold bL_notes_330; rw [if_neg c_336])
      exact fin (by rw [hs]; dsimp only; exact hJ) (by rw [hs]) dL_notes_352
    · skip
      refine lv_aload_n hx hb dL_notes_339 rfl (lv_at hl 0 rfl) ?_
      refine kL_74 X hJ (mX6_wipe l E B gg gg.2.1) rfl (by omega) at_X hl.1 ⟨Nat.le_of_ble_eq_true rfl, Nat.le_of_ble_eq_true rfl⟩ ⟨Nat.le_refl _, Nat.le_refl _⟩ (rest := []) rfl (Nat.le_of_ble_eq_true rfl) dL_notes_340 (fun H locs hJ => ?_)
      refine lv_iload_n hx hb dL_notes_343 rfl (lv_at hl 1 rfl) ?_
      refine lv_icmp_ne (tgt := 351) hx hb dL_notes_344 (by decide) (fun c_344 => ?_) (fun c_344 => ?_)
      · skip
        refine lv_iconst (v := 0) hx hb dL_notes_351 (by decide) ?_
        have hs : sL_notes g a1 = (0, upC gg (sX6_wipe gg.2.1).2) := hs.trans (by unfold bL_notes_330; rw [if_pos c_336, if_neg c_344])
        exact fin (by rw [hs]; dsimp only; exact hJ) (by rw [hs]) dL_notes_352
      · skip
        refine lv_iconst (v := 1) hx hb dL_notes_347 (by decide) ?_
        refine lv_goto (tgt := 352) hx hb dL_notes_348 (by decide) ?_
        have hs : sL_notes g a1 = (1, upC gg (sX6_wipe gg.2.1).2) := hs.trans (by unfold bL_notes_330; rw [if_pos c_336, if_pos c_344])
        exact fin (by rw [hs]; dsimp only; exact hJ) (by rw [hs]) dL_notes_352
  have bk_246 : ∀ (n : Nat) (gg : GS) (v1 : Int32) (v2 : Int32) (v3 : Int32) (v6 : Int32) (v7 : Int32) (v8 : Nat), 12 - v8 < n → (Gn gg) → (v8 ≤ 12) → ∀ (H : Heap) (locs : List Loc) (ls : Array Slot), JG E B s_ gg H locs → lv_has ls 9 [(0, .ref (B + 0)), (1, .int v1), (2, .int v2), (3, .int v3), (6, .int v6), (7, .int v7), (8, .int (nI v8))] → sL_notes g a1 = bL_notes_246 n gg v1 v2 v3 v6 v7 v8 → W P_ l e_ (rmm 4 88 0 0) s_ m_ a_ below meth cd H locs 0 0 Q (F0 m_ 246 ls []) := by
    intro n
    induction n with
    | zero => intro gg v1 v2 v3 v6 v7 v8 hm; exact absurd hm (Nat.not_lt_zero _)
    | succ n_246 ih_246 =>
      intro gg v1 v2 v3 v6 v7 v8 hm hgn hp_246 H locs ls hJ hl hs
      have bk_297 : ∀ (gg : GS) (v7 : Int32), (Gn gg) → (v8 < 12) → ∀ (H : Heap) (locs : List Loc) (ls : Array Slot), JG E B s_ gg H locs → lv_has ls 9 [(0, .ref (B + 0)), (1, .int v1), (2, .int v2), (3, .int v3), (6, .int v6), (7, .int v7), (8, .int (nI v8))] → sL_notes g a1 = bL_notes_297 (bL_notes_246 n_246) gg v1 v2 v3 v6 v7 v8 → W P_ l e_ (rmm 4 88 0 0) s_ m_ a_ below meth cd H locs 0 0 Q (F0 m_ 297 ls []) := by
        intro gg v7 hgn hp2_246 H locs ls hJ hl hs
        refine lv_iinc (v := nI (v8 + 1)) (lv' := [(8, .int (nI (v8 + 1))), (0, .ref (B + 0)), (1, .int v1), (2, .int v2), (3, .int v3), (6, .int v6), (7, .int v7)]) hx hb dL_notes_297 hl (k := 6) rfl (by first | exact nI_add _ _ | rfl) (by decide) rfl (fun ls hl => ?_)
        refine lv_goto (tgt := 246) hx hb dL_notes_300 (by decide) ?_
        have hs : sL_notes g a1 = bL_notes_246 n_246 gg v1 v2 v3 v6 v7 (v8 + 1) := hs.trans (by unfold bL_notes_297; rfl)
        exact ih_246 gg v1 v2 v3 v6 v7 (v8 + 1) (by omega) (hgn) (by omega) _ _ _ hJ (lv_sub hl [1, 2, 3, 4, 5, 6, 0] rfl) hs
      refine lv_iload hx hb dL_notes_246 (lv_at hl 6 rfl) ?_
      refine lv_aload_n hx hb dL_notes_248 rfl (lv_at hl 0 rfl) ?_
      refine lv_iconst (v := 1) hx hb dL_notes_249 (by decide) ?_
      refine kL_10 X hJ (mX6_count l E B gg 1 (hgn)) rfl (by omega) at_X hl.1 ⟨Nat.le_of_ble_eq_true rfl, Nat.le_of_ble_eq_true rfl⟩ ⟨Nat.le_refl _, Nat.le_refl _⟩ (rest := [.int (nI v8)]) rfl (Nat.le_of_ble_eq_true rfl) dL_notes_250 (fun H locs hJ => ?_)
      refine lv_icmp_ge (tgt := 303) hx hb dL_notes_253 (by decide) (fun c_253 => ?_) (fun c_253 => ?_)
      · skip
        refine lv_iload_n hx hb dL_notes_303 rfl (lv_at hl 3 rfl) ?_
        refine lv_if_eq (tgt := 351) hx hb dL_notes_304 (by decide) (fun c_304 => ?_) (fun c_304 => ?_)
        · skip
          refine lv_iconst (v := 0) hx hb dL_notes_351 (by decide) ?_
          have hs : sL_notes g a1 = (0, gg) := hs.trans (by rw [bL_notes_246, if_pos c_253, if_pos c_304])
          exact fin (by rw [hs]; dsimp only; exact hJ) (by rw [hs]) dL_notes_352
        · skip
          refine lv_iload_n hx hb dL_notes_307 rfl (lv_at hl 2 rfl) ?_
          refine lv_bipush (v := 80) hx hb dL_notes_308 (by decide) ?_
          refine lv_icmp_ge (tgt := 323) hx hb dL_notes_310 (by decide) (fun c_310 => ?_) (fun c_310 => ?_)
          · skip
            refine lv_iload hx hb dL_notes_323 (lv_at hl 4 rfl) ?_
            refine lv_iload hx hb dL_notes_325 (lv_at hl 5 rfl) ?_
            refine lv_icmp_gt (tgt := 351) hx hb dL_notes_327 (by decide) (fun c_327 => ?_) (fun c_327 => ?_)
            · skip
              refine lv_iconst (v := 0) hx hb dL_notes_351 (by decide) ?_
              have hs : sL_notes g a1 = (0, gg) := hs.trans (by rw [bL_notes_246, if_pos c_253, if_neg c_304, if_pos c_310, if_pos c_327])
              exact fin (by rw [hs]; dsimp only; exact hJ) (by rw [hs]) dL_notes_352
            · skip
              have hs : sL_notes g a1 = bL_notes_330 gg v2 := hs.trans (by rw [bL_notes_246, if_pos c_253, if_neg c_304, if_pos c_310, if_neg c_327])
              exact bk_330 gg v2 (hgn) _ _ _ hJ (lv_sub hl [0, 2] rfl) hs
          · skip
            refine lv_iload hx hb dL_notes_313 (lv_at hl 4 rfl) ?_
            refine lv_iload hx hb dL_notes_315 (lv_at hl 5 rfl) ?_
            refine lv_icmp_ne (tgt := 351) hx hb dL_notes_317 (by decide) (fun c_317 => ?_) (fun c_317 => ?_)
            · skip
              refine lv_iconst (v := 0) hx hb dL_notes_351 (by decide) ?_
              have hs : sL_notes g a1 = (0, gg) := hs.trans (by rw [bL_notes_246, if_pos c_253, if_neg c_304, if_neg c_310, if_neg c_317])
              exact fin (by rw [hs]; dsimp only; exact hJ) (by rw [hs]) dL_notes_352
            · skip
              refine lv_goto (tgt := 330) hx hb dL_notes_320 (by decide) ?_
              have hs : sL_notes g a1 = bL_notes_330 gg v2 := hs.trans (by rw [bL_notes_246, if_pos c_253, if_neg c_304, if_neg c_310, if_pos c_317])
              exact bk_330 gg v2 (hgn) _ _ _ hJ (lv_sub hl [0, 2] rfl) hs
      · skip
        have hp2_246 : v8 < 12 := cnt5_lt hgn (by omega) c_253
        refine lv_iload hx hb dL_notes_256 (lv_at hl 5 rfl) ?_
        refine lv_aload_n hx hb dL_notes_258 rfl (lv_at hl 0 rfl) ?_
        refine lv_iload_n hx hb dL_notes_259 rfl (lv_at hl 1 rfl) ?_
        refine lv_iload hx hb dL_notes_260 (lv_at hl 6 rfl) ?_
        refine lv_iconst (v := 0) hx hb dL_notes_262 (by decide) ?_
        refine kL_35 X hJ (mX6_knows l E B gg v1 (nI v8) 0 (hgn)) rfl (by omega) at_X hl.1 ⟨Nat.le_of_ble_eq_true rfl, Nat.le_of_ble_eq_true rfl⟩ ⟨Nat.le_refl _, Nat.le_refl _⟩ (rest := [.int v7]) rfl (Nat.le_of_ble_eq_true rfl) dL_notes_263 (fun H locs hJ => ?_)
        refine lv_if_gt (tgt := 289) hx hb dL_notes_266 (by decide) (fun c_266 => ?_) (fun c_266 => ?_)
        · skip
          refine lv_iconst (v := 1) hx hb dL_notes_289 (by decide) ?_
          refine lv_goto (tgt := 294) hx hb dL_notes_290 (by decide) ?_
          refine lv_iadd hx hb dL_notes_294 ?_
          refine lv_istore (lv' := [(7, .int (v7 + 1)), (0, .ref (B + 0)), (1, .int v1), (2, .int v2), (3, .int v3), (6, .int v6), (8, .int (nI v8))]) hx hb dL_notes_295 hl (by decide) rfl (fun ls hl => ?_)
          have hs : sL_notes g a1 = bL_notes_297 (bL_notes_246 n_246) gg v1 v2 v3 v6 (v7 + 1) v8 := hs.trans (by rw [bL_notes_246, if_neg c_253, if_pos c_266])
          exact bk_297 gg (v7 + 1) (hgn) (hp2_246) _ _ _ hJ (lv_sub hl [1, 2, 3, 4, 5, 0, 6] rfl) hs
        · skip
          refine lv_aload_n hx hb dL_notes_269 rfl (lv_at hl 0 rfl) ?_
          refine lv_iload_n hx hb dL_notes_270 rfl (lv_at hl 1 rfl) ?_
          refine lv_iload hx hb dL_notes_271 (lv_at hl 6 rfl) ?_
          refine lv_iconst (v := 1) hx hb dL_notes_273 (by decide) ?_
          refine kL_35 X hJ (mX6_knows l E B gg v1 (nI v8) 1 (hgn)) rfl (by omega) at_X hl.1 ⟨Nat.le_of_ble_eq_true rfl, Nat.le_of_ble_eq_true rfl⟩ ⟨Nat.le_refl _, Nat.le_refl _⟩ (rest := [.int v7]) rfl (Nat.le_of_ble_eq_true rfl) dL_notes_274 (fun H locs hJ => ?_)
          refine lv_aload_n hx hb dL_notes_277 rfl (lv_at hl 0 rfl) ?_
          refine lv_iload hx hb dL_notes_278 (lv_at hl 6 rfl) ?_
          refine lv_iconst (v := 2) hx hb dL_notes_280 (by decide) ?_
          refine kL_26 X hJ (mX6_ofBridge l E B gg (nI v8) 2 (hgn)) rfl (by omega) at_X hl.1 ⟨Nat.le_of_ble_eq_true rfl, Nat.le_of_ble_eq_true rfl⟩ ⟨Nat.le_refl _, Nat.le_refl _⟩ (rest := [.int (sX6_knows gg v1 (nI v8) 1), .int v7]) rfl (Nat.le_of_ble_eq_true rfl) dL_notes_281 (fun H locs hJ => ?_)
          refine lv_iconst (v := 1) hx hb dL_notes_284 (by decide) ?_
          refine lv_isub hx hb dL_notes_285 ?_
          refine lv_icmp_ge (tgt := 293) hx hb dL_notes_286 (by decide) (fun c_286 => ?_) (fun c_286 => ?_)
          · skip
            refine lv_iconst (v := 0) hx hb dL_notes_293 (by decide) ?_
            refine lv_iadd hx hb dL_notes_294 ?_
            refine lv_istore (lv' := [(7, .int (v7 + 0)), (0, .ref (B + 0)), (1, .int v1), (2, .int v2), (3, .int v3), (6, .int v6), (8, .int (nI v8))]) hx hb dL_notes_295 hl (by decide) rfl (fun ls hl => ?_)
            have hs : sL_notes g a1 = bL_notes_297 (bL_notes_246 n_246) gg v1 v2 v3 v6 (v7 + 0) v8 := hs.trans (by rw [bL_notes_246, if_neg c_253, if_neg c_266, if_pos c_286])
            exact bk_297 gg (v7 + 0) (hgn) (hp2_246) _ _ _ hJ (lv_sub hl [1, 2, 3, 4, 5, 0, 6] rfl) hs
          · skip
            refine lv_iconst (v := 1) hx hb dL_notes_289 (by decide) ?_
            refine lv_goto (tgt := 294) hx hb dL_notes_290 (by decide) ?_
            refine lv_iadd hx hb dL_notes_294 ?_
            refine lv_istore (lv' := [(7, .int (v7 + 1)), (0, .ref (B + 0)), (1, .int v1), (2, .int v2), (3, .int v3), (6, .int v6), (8, .int (nI v8))]) hx hb dL_notes_295 hl (by decide) rfl (fun ls hl => ?_)
            have hs : sL_notes g a1 = bL_notes_297 (bL_notes_246 n_246) gg v1 v2 v3 v6 (v7 + 1) v8 := hs.trans (by rw [bL_notes_246, if_neg c_253, if_neg c_266, if_neg c_286])
            exact bk_297 gg (v7 + 1) (hgn) (hp2_246) _ _ _ hJ (lv_sub hl [1, 2, 3, 4, 5, 0, 6] rfl) hs
  have bk_207 : ∀ (n : Nat) (gg : GS) (v1 : Int32) (v2 : Int32) (v3 : Int32) (v6 : Int32) (v7 : Nat), nn v2 - v7 < n → (Gn gg) → (v7 ≤ nn v2) → ∀ (H : Heap) (locs : List Loc) (ls : Array Slot), JG E B s_ gg H locs → lv_has ls 9 [(0, .ref (B + 0)), (1, .int v1), (2, .int v2), (3, .int v3), (6, .int v6), (7, .int (nI v7))] → sL_notes g a1 = bL_notes_207 n gg v1 v2 v3 v6 v7 → W P_ l e_ (rmm 4 88 0 0) s_ m_ a_ below meth cd H locs 0 0 Q (F0 m_ 207 ls []) := by
    intro n
    induction n with
    | zero => intro gg v1 v2 v3 v6 v7 hm; exact absurd hm (Nat.not_lt_zero _)
    | succ n_207 ih_207 =>
      intro gg v1 v2 v3 v6 v7 hm hgn hp_207 H locs ls hJ hl hs
      have bk_234 : ∀ (gg : GS) (v6 : Int32), (Gn gg) → (v7 < nn v2) → ∀ (H : Heap) (locs : List Loc) (ls : Array Slot), JG E B s_ gg H locs → lv_has ls 9 [(0, .ref (B + 0)), (1, .int v1), (2, .int v2), (3, .int v3), (6, .int v6), (7, .int (nI v7))] → sL_notes g a1 = bL_notes_234 (bL_notes_207 n_207) gg v1 v2 v3 v6 v7 → W P_ l e_ (rmm 4 88 0 0) s_ m_ a_ below meth cd H locs 0 0 Q (F0 m_ 234 ls []) := by
        intro gg v6 hgn hp2_207 H locs ls hJ hl hs
        refine lv_iinc (v := nI (v7 + 1)) (lv' := [(7, .int (nI (v7 + 1))), (0, .ref (B + 0)), (1, .int v1), (2, .int v2), (3, .int v3), (6, .int v6)]) hx hb dL_notes_234 hl (k := 5) rfl (by first | exact nI_add _ _ | rfl) (by decide) rfl (fun ls hl => ?_)
        refine lv_goto (tgt := 207) hx hb dL_notes_237 (by decide) ?_
        have hs : sL_notes g a1 = bL_notes_207 n_207 gg v1 v2 v3 v6 (v7 + 1) := hs.trans (by unfold bL_notes_234; rfl)
        exact ih_207 gg v1 v2 v3 v6 (v7 + 1) (by omega) (hgn) (by omega) _ _ _ hJ (lv_sub hl [1, 2, 3, 4, 5, 0] rfl) hs
      refine lv_iload hx hb dL_notes_207 (lv_at hl 5 rfl) ?_
      refine lv_iload_n hx hb dL_notes_209 rfl (lv_at hl 2 rfl) ?_
      refine lv_icmp_ge (tgt := 240) hx hb dL_notes_210 (by decide) (fun c_210 => ?_) (fun c_210 => ?_)
      · skip
        refine lv_iconst (v := 0) hx hb dL_notes_240 (by decide) ?_
        refine lv_istore (lv' := [(7, .int 0), (0, .ref (B + 0)), (1, .int v1), (2, .int v2), (3, .int v3), (6, .int v6)]) hx hb dL_notes_241 hl (by decide) rfl (fun ls hl => ?_)
        refine lv_iconst (v := 0) hx hb dL_notes_243 (by decide) ?_
        refine lv_istore (lv' := [(8, .int 0), (7, .int 0), (0, .ref (B + 0)), (1, .int v1), (2, .int v2), (3, .int v3), (6, .int v6)]) hx hb dL_notes_244 hl (by decide) rfl (fun ls hl => ?_)
        have hs : sL_notes g a1 = bL_notes_246 13 gg v1 v2 v3 v6 0 0 := hs.trans (by rw [bL_notes_207, if_pos c_210])
        exact bk_246 13 gg v1 v2 v3 v6 0 0 (by omega) (hgn) (by omega) _ _ _ hJ (lv_sub hl [2, 3, 4, 5, 6, 1, 0] rfl) hs
      · skip
        have hp2_207 : v7 < nn v2 := nlt_cnt c_210 (by have := nn_b (c := v2); omega)
        refine lv_iload hx hb dL_notes_213 (lv_at hl 4 rfl) ?_
        refine lv_aload_n hx hb dL_notes_215 rfl (lv_at hl 0 rfl) ?_
        refine lv_iload hx hb dL_notes_216 (lv_at hl 5 rfl) ?_
        refine kL_71 X hJ (mX6_sign l E B _ (nI v7) gg.2.1 rfl ((hgn).2.1)) rfl (by omega) at_X hl.1 ⟨Nat.le_of_ble_eq_true rfl, Nat.le_of_ble_eq_true rfl⟩ ⟨Nat.le_refl _, Nat.le_refl _⟩ (rest := [.int v6]) rfl (Nat.le_of_ble_eq_true rfl) dL_notes_218 (fun H locs hJ => ?_)
        refine lv_bipush (v := 59) hx hb dL_notes_221 (by decide) ?_
        refine lv_icmp_ne (tgt := 230) hx hb dL_notes_223 (by decide) (fun c_223 => ?_) (fun c_223 => ?_)
        · skip
          refine lv_iconst (v := 0) hx hb dL_notes_230 (by decide) ?_
          refine lv_iadd hx hb dL_notes_231 ?_
          refine lv_istore (lv' := [(6, .int (v6 + 0)), (0, .ref (B + 0)), (1, .int v1), (2, .int v2), (3, .int v3), (7, .int (nI v7))]) hx hb dL_notes_232 hl (by decide) rfl (fun ls hl => ?_)
          have hs : sL_notes g a1 = bL_notes_234 (bL_notes_207 n_207) gg v1 v2 v3 (v6 + 0) v7 := hs.trans (by rw [bL_notes_207, if_neg c_210, if_neg c_223])
          exact bk_234 gg (v6 + 0) (hgn) (hp2_207) _ _ _ hJ (lv_sub hl [1, 2, 3, 4, 0, 5] rfl) hs
        · skip
          refine lv_iconst (v := 1) hx hb dL_notes_226 (by decide) ?_
          refine lv_goto (tgt := 231) hx hb dL_notes_227 (by decide) ?_
          refine lv_iadd hx hb dL_notes_231 ?_
          refine lv_istore (lv' := [(6, .int (v6 + 1)), (0, .ref (B + 0)), (1, .int v1), (2, .int v2), (3, .int v3), (7, .int (nI v7))]) hx hb dL_notes_232 hl (by decide) rfl (fun ls hl => ?_)
          have hs : sL_notes g a1 = bL_notes_234 (bL_notes_207 n_207) gg v1 v2 v3 (v6 + 1) v7 := hs.trans (by rw [bL_notes_207, if_neg c_210, if_pos c_223])
          exact bk_234 gg (v6 + 1) (hgn) (hp2_207) _ _ _ hJ (lv_sub hl [1, 2, 3, 4, 0, 5] rfl) hs
  have bk_199 : ∀ (gg : GS) (v1 : Int32) (v2 : Int32), (Gn gg) → ∀ (H : Heap) (locs : List Loc) (ls : Array Slot), JG E B s_ gg H locs → lv_has ls 9 [(0, .ref (B + 0)), (1, .int v1), (2, .int v2)] → sL_notes g a1 = bL_notes_199 gg v1 v2 → W P_ l e_ (rmm 4 88 0 0) s_ m_ a_ below meth cd H locs 0 0 Q (F0 m_ 199 ls []) := by
    intro gg v1 v2 hgn H locs ls hJ hl hs
    refine lv_iconst (v := 0) hx hb dL_notes_199 (by decide) ?_
    refine lv_istore_n (lv' := [(3, .int 0), (0, .ref (B + 0)), (1, .int v1), (2, .int v2)]) hx hb dL_notes_200 rfl hl (by decide) rfl (fun ls hl => ?_)
    refine lv_iconst (v := 0) hx hb dL_notes_201 (by decide) ?_
    refine lv_istore (lv' := [(6, .int 0), (3, .int 0), (0, .ref (B + 0)), (1, .int v1), (2, .int v2)]) hx hb dL_notes_202 hl (by decide) rfl (fun ls hl => ?_)
    refine lv_iconst (v := 0) hx hb dL_notes_204 (by decide) ?_
    refine lv_istore (lv' := [(7, .int 0), (6, .int 0), (3, .int 0), (0, .ref (B + 0)), (1, .int v1), (2, .int v2)]) hx hb dL_notes_205 hl (by decide) rfl (fun ls hl => ?_)
    have hs : sL_notes g a1 = bL_notes_207 (nn v2 + 1) gg v1 v2 0 0 0 := hs.trans (by unfold bL_notes_199; rfl)
    exact bk_207 (nn v2 + 1) gg v1 v2 0 0 0 (by omega) (hgn) (by omega) _ _ _ hJ (lv_sub hl [3, 4, 5, 2, 1, 0] rfl) hs
  have bk_195 : ∀ (gg : GS) (v1 : Int32) (v2 : Int32), (Gn gg) → ∀ (H : Heap) (locs : List Loc) (ls : Array Slot), JG E B s_ gg H locs → lv_has ls 9 [(0, .ref (B + 0)), (1, .int v1), (2, .int v2)] → sL_notes g a1 = bL_notes_195 gg v1 v2 → W P_ l e_ (rmm 4 88 0 0) s_ m_ a_ below meth cd H locs 0 0 Q (F0 m_ 195 ls []) := by
    intro gg v1 v2 hgn H locs ls hJ hl hs
    refine lv_iconst (v := 1) hx hb dL_notes_195 (by decide) ?_
    refine lv_goto (tgt := 200) hx hb dL_notes_196 (by decide) ?_
    refine lv_istore_n (lv' := [(3, .int 1), (0, .ref (B + 0)), (1, .int v1), (2, .int v2)]) hx hb dL_notes_200 rfl hl (by decide) rfl (fun ls hl => ?_)
    refine lv_iconst (v := 0) hx hb dL_notes_201 (by decide) ?_
    refine lv_istore (lv' := [(6, .int 0), (3, .int 1), (0, .ref (B + 0)), (1, .int v1), (2, .int v2)]) hx hb dL_notes_202 hl (by decide) rfl (fun ls hl => ?_)
    refine lv_iconst (v := 0) hx hb dL_notes_204 (by decide) ?_
    refine lv_istore (lv' := [(7, .int 0), (6, .int 0), (3, .int 1), (0, .ref (B + 0)), (1, .int v1), (2, .int v2)]) hx hb dL_notes_205 hl (by decide) rfl (fun ls hl => ?_)
    have hs : sL_notes g a1 = bL_notes_207 (nn v2 + 1) gg v1 v2 1 0 0 := hs.trans (by unfold bL_notes_195; rfl)
    exact bk_207 (nn v2 + 1) gg v1 v2 1 0 0 (by omega) (hgn) (by omega) _ _ _ hJ (lv_sub hl [3, 4, 5, 2, 1, 0] rfl) hs
  have bk_163 : ∀ (gg : GS) (v1 : Int32) (v2 : Int32) (v3 : Int32) (v4 : Int32) (v5 : Int32), (Gn gg) → ∀ (H : Heap) (locs : List Loc) (ls : Array Slot), JG E B s_ gg H locs → lv_has ls 9 [(0, .ref (B + 0)), (1, .int v1), (2, .int v2), (3, .int v3), (4, .int v4), (5, .int v5)] → sL_notes g a1 = bL_notes_163 gg v1 v2 v3 v4 v5 → W P_ l e_ (rmm 4 88 0 0) s_ m_ a_ below meth cd H locs 0 0 Q (F0 m_ 163 ls []) := by
    intro gg v1 v2 v3 v4 v5 hgn H locs ls hJ hl hs
    refine lv_iload_n hx hb dL_notes_163 rfl (lv_at hl 3 rfl) ?_
    refine lv_if_eq (tgt := 199) hx hb dL_notes_164 (by decide) (fun c_164 => ?_) (fun c_164 => ?_)
    · skip
      have hs : sL_notes g a1 = bL_notes_199 gg v1 v2 := hs.trans (by unfold bL_notes_163; rw [if_pos c_164])
      exact bk_199 gg v1 v2 (hgn) _ _ _ hJ (lv_sub hl [0, 1, 2] rfl) hs
    · skip
      refine lv_iload hx hb dL_notes_167 (lv_at hl 4 rfl) ?_
      refine lv_aload_n hx hb dL_notes_169 rfl (lv_at hl 0 rfl) ?_
      refine lv_iload_n hx hb dL_notes_170 rfl (lv_at hl 1 rfl) ?_
      refine lv_iconst (v := 1) hx hb dL_notes_171 (by decide) ?_
      refine kL_16 X hJ (mX6_ofCart l E B gg v1 1 (hgn)) rfl (by omega) at_X hl.1 ⟨Nat.le_of_ble_eq_true rfl, Nat.le_of_ble_eq_true rfl⟩ ⟨Nat.le_refl _, Nat.le_refl _⟩ (rest := [.int v4]) rfl (Nat.le_of_ble_eq_true rfl) dL_notes_172 (fun H locs hJ => ?_)
      refine lv_icmp_ne (tgt := 199) hx hb dL_notes_175 (by decide) (fun c_175 => ?_) (fun c_175 => ?_)
      · skip
        have hs : sL_notes g a1 = bL_notes_199 gg v1 v2 := hs.trans (by unfold bL_notes_163; rw [if_neg c_164, if_neg c_175])
        exact bk_199 gg v1 v2 (hgn) _ _ _ hJ (lv_sub hl [0, 1, 2] rfl) hs
      · skip
        refine lv_iload hx hb dL_notes_178 (lv_at hl 5 rfl) ?_
        refine lv_iload_n hx hb dL_notes_180 rfl (lv_at hl 2 rfl) ?_
        refine lv_icmp_eq (tgt := 195) hx hb dL_notes_181 (by decide) (fun c_181 => ?_) (fun c_181 => ?_)
        · skip
          have hs : sL_notes g a1 = bL_notes_195 gg v1 v2 := hs.trans (by unfold bL_notes_163; rw [if_neg c_164, if_pos c_175, if_pos c_181])
          exact bk_195 gg v1 v2 (hgn) _ _ _ hJ (lv_sub hl [0, 1, 2] rfl) hs
        · skip
          refine lv_aload_n hx hb dL_notes_184 rfl (lv_at hl 0 rfl) ?_
          refine lv_iload hx hb dL_notes_185 (lv_at hl 5 rfl) ?_
          refine kL_71 X hJ (mX6_sign l E B _ v5 gg.2.1 rfl ((hgn).2.1)) rfl (by omega) at_X hl.1 ⟨Nat.le_of_ble_eq_true rfl, Nat.le_of_ble_eq_true rfl⟩ ⟨Nat.le_refl _, Nat.le_refl _⟩ (rest := []) rfl (Nat.le_of_ble_eq_true rfl) dL_notes_187 (fun H locs hJ => ?_)
          refine lv_bipush (v := 59) hx hb dL_notes_190 (by decide) ?_
          refine lv_icmp_ne (tgt := 199) hx hb dL_notes_192 (by decide) (fun c_192 => ?_) (fun c_192 => ?_)
          · skip
            have hs : sL_notes g a1 = bL_notes_199 gg v1 v2 := hs.trans (by unfold bL_notes_163; rw [if_neg c_164, if_pos c_175, if_neg c_181, if_neg c_192])
            exact bk_199 gg v1 v2 (hgn) _ _ _ hJ (lv_sub hl [0, 1, 2] rfl) hs
          · skip
            have hs : sL_notes g a1 = bL_notes_195 gg v1 v2 := hs.trans (by unfold bL_notes_163; rw [if_neg c_164, if_pos c_175, if_neg c_181, if_pos c_192])
            exact bk_195 gg v1 v2 (hgn) _ _ _ hJ (lv_sub hl [0, 1, 2] rfl) hs
  have bk_118 : ∀ (n : Nat) (gg : GS) (v1 : Int32) (v2 : Int32) (v3 : Int32) (v4 : Int32) (v5 : Nat), 80 - v5 < n → (Gn gg) → (v5 ≤ 80) → ∀ (H : Heap) (locs : List Loc) (ls : Array Slot), JG E B s_ gg H locs → lv_has ls 9 [(0, .ref (B + 0)), (1, .int v1), (2, .int v2), (3, .int v3), (4, .int v4), (5, .int (nI v5))] → sL_notes g a1 = bL_notes_118 n gg v1 v2 v3 v4 v5 → W P_ l e_ (rmm 4 88 0 0) s_ m_ a_ below meth cd H locs 0 0 Q (F0 m_ 118 ls []) := by
    intro n
    induction n with
    | zero => intro gg v1 v2 v3 v4 v5 hm; exact absurd hm (Nat.not_lt_zero _)
    | succ n_118 ih_118 =>
      intro gg v1 v2 v3 v4 v5 hm hgn hp_118 H locs ls hJ hl hs
      refine lv_aload_n hx hb dL_notes_118 rfl (lv_at hl 0 rfl) ?_
      refine lv_iload hx hb dL_notes_119 (lv_at hl 5 rfl) ?_
      refine kL_71 X hJ (mX6_sign l E B _ (nI v5) gg.2.1 rfl ((hgn).2.1)) rfl (by omega) at_X hl.1 ⟨Nat.le_of_ble_eq_true rfl, Nat.le_of_ble_eq_true rfl⟩ ⟨Nat.le_refl _, Nat.le_refl _⟩ (rest := []) rfl (Nat.le_of_ble_eq_true rfl) dL_notes_121 (fun H locs hJ => ?_)
      refine lv_bipush (v := 48) hx hb dL_notes_124 (by decide) ?_
      refine lv_icmp_lt (tgt := 163) hx hb dL_notes_126 (by decide) (fun c_126 => ?_) (fun c_126 => ?_)
      · skip
        have hs : sL_notes g a1 = bL_notes_163 gg v1 v2 v3 v4 (nI v5) := hs.trans (by rw [bL_notes_118, if_pos c_126])
        exact bk_163 gg v1 v2 v3 v4 (nI v5) (hgn) _ _ _ hJ (lv_sub hl [0, 1, 2, 3, 4, 5] rfl) hs
      · skip
        have hp2_118 : v5 < 80 := sign_lt hgn (by omega) c_126
        refine lv_aload_n hx hb dL_notes_129 rfl (lv_at hl 0 rfl) ?_
        refine lv_iload hx hb dL_notes_130 (lv_at hl 5 rfl) ?_
        refine kL_71 X hJ (mX6_sign l E B _ (nI v5) gg.2.1 rfl ((hgn).2.1)) rfl (by omega) at_X hl.1 ⟨Nat.le_of_ble_eq_true rfl, Nat.le_of_ble_eq_true rfl⟩ ⟨Nat.le_refl _, Nat.le_refl _⟩ (rest := []) rfl (Nat.le_of_ble_eq_true rfl) dL_notes_132 (fun H locs hJ => ?_)
        refine lv_bipush (v := 57) hx hb dL_notes_135 (by decide) ?_
        refine lv_icmp_gt (tgt := 163) hx hb dL_notes_137 (by decide) (fun c_137 => ?_) (fun c_137 => ?_)
        · skip
          have hs : sL_notes g a1 = bL_notes_163 gg v1 v2 v3 v4 (nI v5) := hs.trans (by rw [bL_notes_118, if_neg c_126, if_pos c_137])
          exact bk_163 gg v1 v2 v3 v4 (nI v5) (hgn) _ _ _ hJ (lv_sub hl [0, 1, 2, 3, 4, 5] rfl) hs
        · skip
          refine lv_bipush (v := 10) hx hb dL_notes_140 (by decide) ?_
          refine lv_iload hx hb dL_notes_142 (lv_at hl 4 rfl) ?_
          refine lv_imul hx hb dL_notes_144 ?_
          refine lv_aload_n hx hb dL_notes_145 rfl (lv_at hl 0 rfl) ?_
          refine lv_iload hx hb dL_notes_146 (lv_at hl 5 rfl) ?_
          refine kL_71 X hJ (mX6_sign l E B _ (nI v5) gg.2.1 rfl ((hgn).2.1)) rfl (by omega) at_X hl.1 ⟨Nat.le_of_ble_eq_true rfl, Nat.le_of_ble_eq_true rfl⟩ ⟨Nat.le_refl _, Nat.le_refl _⟩ (rest := [.int (10 * v4)]) rfl (Nat.le_of_ble_eq_true rfl) dL_notes_148 (fun H locs hJ => ?_)
          refine lv_iadd hx hb dL_notes_151 ?_
          refine lv_bipush (v := 48) hx hb dL_notes_152 (by decide) ?_
          refine lv_isub hx hb dL_notes_154 ?_
          refine lv_istore (lv' := [(4, .int (((10 * v4) + (sX6_sign gg.2.1 (nI v5))) - 48)), (0, .ref (B + 0)), (1, .int v1), (2, .int v2), (3, .int v3), (5, .int (nI v5))]) hx hb dL_notes_155 hl (by decide) rfl (fun ls hl => ?_)
          refine lv_iinc (v := nI (v5 + 1)) (lv' := [(5, .int (nI (v5 + 1))), (4, .int (((10 * v4) + (sX6_sign gg.2.1 (nI v5))) - 48)), (0, .ref (B + 0)), (1, .int v1), (2, .int v2), (3, .int v3)]) hx hb dL_notes_157 hl (k := 5) rfl (by first | exact nI_add _ _ | rfl) (by decide) rfl (fun ls hl => ?_)
          refine lv_goto (tgt := 118) hx hb dL_notes_160 (by decide) ?_
          have hs : sL_notes g a1 = bL_notes_118 n_118 gg v1 v2 v3 (((10 * v4) + (sX6_sign gg.2.1 (nI v5))) - 48) (v5 + 1) := hs.trans (by rw [bL_notes_118, if_neg c_126, if_neg c_137])
          exact ih_118 gg v1 v2 v3 (((10 * v4) + (sX6_sign gg.2.1 (nI v5))) - 48) (v5 + 1) (by omega) (hgn) (by omega) _ _ _ hJ (lv_sub hl [2, 3, 4, 5, 1, 0] rfl) hs
  have bk_110 : ∀ (gg : GS) (v1 : Int32) (v2 : Int32), (Gn gg) → ∀ (H : Heap) (locs : List Loc) (ls : Array Slot), JG E B s_ gg H locs → lv_has ls 9 [(0, .ref (B + 0)), (1, .int v1), (2, .int v2)] → sL_notes g a1 = bL_notes_110 gg v1 v2 → W P_ l e_ (rmm 4 88 0 0) s_ m_ a_ below meth cd H locs 0 0 Q (F0 m_ 110 ls []) := by
    intro gg v1 v2 hgn H locs ls hJ hl hs
    refine lv_iconst (v := 0) hx hb dL_notes_110 (by decide) ?_
    refine lv_istore_n (lv' := [(3, .int 0), (0, .ref (B + 0)), (1, .int v1), (2, .int v2)]) hx hb dL_notes_111 rfl hl (by decide) rfl (fun ls hl => ?_)
    refine lv_iconst (v := 0) hx hb dL_notes_112 (by decide) ?_
    refine lv_istore (lv' := [(4, .int 0), (3, .int 0), (0, .ref (B + 0)), (1, .int v1), (2, .int v2)]) hx hb dL_notes_113 hl (by decide) rfl (fun ls hl => ?_)
    refine lv_iconst (v := 5) hx hb dL_notes_115 (by decide) ?_
    refine lv_istore (lv' := [(5, .int 5), (4, .int 0), (3, .int 0), (0, .ref (B + 0)), (1, .int v1), (2, .int v2)]) hx hb dL_notes_116 hl (by decide) rfl (fun ls hl => ?_)
    have hs : sL_notes g a1 = bL_notes_118 81 gg v1 v2 0 0 5 := hs.trans (by unfold bL_notes_110; rfl)
    exact bk_118 81 gg v1 v2 0 0 5 (by omega) (hgn) (by omega) _ _ _ hJ (lv_sub hl [3, 4, 5, 2, 1, 0] rfl) hs
  have bk_6 : ∀ (gg : GS) (v1 : Int32) (v2 : Int32), (Gn gg) → ∀ (H : Heap) (locs : List Loc) (ls : Array Slot), JG E B s_ gg H locs → lv_has ls 9 [(0, .ref (B + 0)), (1, .int v1), (2, .int v2)] → sL_notes g a1 = bL_notes_6 gg v1 v2 → W P_ l e_ (rmm 4 88 0 0) s_ m_ a_ below meth cd H locs 0 0 Q (F0 m_ 6 ls []) := by
    intro gg v1 v2 hgn H locs ls hJ hl hs
    refine lv_iload_n hx hb dL_notes_6 rfl (lv_at hl 1 rfl) ?_
    refine lv_aload_n hx hb dL_notes_7 rfl (lv_at hl 0 rfl) ?_
    refine lv_iconst (v := 2) hx hb dL_notes_8 (by decide) ?_
    refine kL_10 X hJ (mX6_count l E B gg 2 (hgn)) rfl (by omega) at_X hl.1 ⟨Nat.le_of_ble_eq_true rfl, Nat.le_of_ble_eq_true rfl⟩ ⟨Nat.le_refl _, Nat.le_refl _⟩ (rest := [.int v1]) rfl (Nat.le_of_ble_eq_true rfl) dL_notes_9 (fun H locs hJ => ?_)
    refine lv_icmp_ne (tgt := 26) hx hb dL_notes_12 (by decide) (fun c_12 => ?_) (fun c_12 => ?_)
    · skip
      refine lv_iload_n hx hb dL_notes_26 rfl (lv_at hl 2 rfl) ?_
      refine lv_aload_n hx hb dL_notes_27 rfl (lv_at hl 0 rfl) ?_
      refine lv_bipush (v := 13) hx hb dL_notes_28 (by decide) ?_
      refine kL_10 X hJ (mX6_count l E B gg 13 (hgn)) rfl (by omega) at_X hl.1 ⟨Nat.le_of_ble_eq_true rfl, Nat.le_of_ble_eq_true rfl⟩ ⟨Nat.le_refl _, Nat.le_refl _⟩ (rest := [.int v2]) rfl (Nat.le_of_ble_eq_true rfl) dL_notes_30 (fun H locs hJ => ?_)
      refine lv_icmp_ne (tgt := 110) hx hb dL_notes_33 (by decide) (fun c_33 => ?_) (fun c_33 => ?_)
      · skip
        have hs : sL_notes g a1 = bL_notes_110 gg v1 v2 := hs.trans (by unfold bL_notes_6; rw [if_neg c_12, if_neg c_33])
        exact bk_110 gg v1 v2 (hgn) _ _ _ hJ (lv_sub hl [0, 1, 2] rfl) hs
      · skip
        refine lv_iload_n hx hb dL_notes_36 rfl (lv_at hl 2 rfl) ?_
        refine lv_iconst (v := 5) hx hb dL_notes_37 (by decide) ?_
        refine lv_icmp_le (tgt := 110) hx hb dL_notes_38 (by decide) (fun c_38 => ?_) (fun c_38 => ?_)
        · skip
          have hs : sL_notes g a1 = bL_notes_110 gg v1 v2 := hs.trans (by unfold bL_notes_6; rw [if_neg c_12, if_pos c_33, if_pos c_38])
          exact bk_110 gg v1 v2 (hgn) _ _ _ hJ (lv_sub hl [0, 1, 2] rfl) hs
        · skip
          refine lv_iload_n hx hb dL_notes_41 rfl (lv_at hl 2 rfl) ?_
          refine lv_bipush (v := 80) hx hb dL_notes_42 (by decide) ?_
          refine lv_icmp_gt (tgt := 110) hx hb dL_notes_44 (by decide) (fun c_44 => ?_) (fun c_44 => ?_)
          · skip
            have hs : sL_notes g a1 = bL_notes_110 gg v1 v2 := hs.trans (by unfold bL_notes_6; rw [if_neg c_12, if_pos c_33, if_neg c_38, if_pos c_44])
            exact bk_110 gg v1 v2 (hgn) _ _ _ hJ (lv_sub hl [0, 1, 2] rfl) hs
          · skip
            refine lv_aload_n hx hb dL_notes_47 rfl (lv_at hl 0 rfl) ?_
            refine lv_iconst (v := 0) hx hb dL_notes_48 (by decide) ?_
            refine kL_71 X hJ (mX6_sign l E B _ 0 gg.2.1 rfl ((hgn).2.1)) rfl (by omega) at_X hl.1 ⟨Nat.le_of_ble_eq_true rfl, Nat.le_of_ble_eq_true rfl⟩ ⟨Nat.le_refl _, Nat.le_refl _⟩ (rest := []) rfl (Nat.le_of_ble_eq_true rfl) dL_notes_49 (fun H locs hJ => ?_)
            refine lv_bipush (v := 99) hx hb dL_notes_52 (by decide) ?_
            refine lv_icmp_ne (tgt := 110) hx hb dL_notes_54 (by decide) (fun c_54 => ?_) (fun c_54 => ?_)
            · skip
              have hs : sL_notes g a1 = bL_notes_110 gg v1 v2 := hs.trans (by unfold bL_notes_6; rw [if_neg c_12, if_pos c_33, if_neg c_38, if_neg c_44, if_neg c_54])
              exact bk_110 gg v1 v2 (hgn) _ _ _ hJ (lv_sub hl [0, 1, 2] rfl) hs
            · skip
              refine lv_aload_n hx hb dL_notes_57 rfl (lv_at hl 0 rfl) ?_
              refine lv_iconst (v := 1) hx hb dL_notes_58 (by decide) ?_
              refine kL_71 X hJ (mX6_sign l E B _ 1 gg.2.1 rfl ((hgn).2.1)) rfl (by omega) at_X hl.1 ⟨Nat.le_of_ble_eq_true rfl, Nat.le_of_ble_eq_true rfl⟩ ⟨Nat.le_refl _, Nat.le_refl _⟩ (rest := []) rfl (Nat.le_of_ble_eq_true rfl) dL_notes_59 (fun H locs hJ => ?_)
              refine lv_bipush (v := 48) hx hb dL_notes_62 (by decide) ?_
              refine lv_iload_n hx hb dL_notes_64 rfl (lv_at hl 1 rfl) ?_
              refine lv_iadd hx hb dL_notes_65 ?_
              refine lv_icmp_ne (tgt := 110) hx hb dL_notes_66 (by decide) (fun c_66 => ?_) (fun c_66 => ?_)
              · skip
                have hs : sL_notes g a1 = bL_notes_110 gg v1 v2 := hs.trans (by unfold bL_notes_6; rw [if_neg c_12, if_pos c_33, if_neg c_38, if_neg c_44, if_pos c_54, if_neg c_66])
                exact bk_110 gg v1 v2 (hgn) _ _ _ hJ (lv_sub hl [0, 1, 2] rfl) hs
              · skip
                refine lv_aload_n hx hb dL_notes_69 rfl (lv_at hl 0 rfl) ?_
                refine lv_iconst (v := 2) hx hb dL_notes_70 (by decide) ?_
                refine kL_71 X hJ (mX6_sign l E B _ 2 gg.2.1 rfl ((hgn).2.1)) rfl (by omega) at_X hl.1 ⟨Nat.le_of_ble_eq_true rfl, Nat.le_of_ble_eq_true rfl⟩ ⟨Nat.le_refl _, Nat.le_refl _⟩ (rest := []) rfl (Nat.le_of_ble_eq_true rfl) dL_notes_71 (fun H locs hJ => ?_)
                refine lv_bipush (v := 64) hx hb dL_notes_74 (by decide) ?_
                refine lv_icmp_ne (tgt := 110) hx hb dL_notes_76 (by decide) (fun c_76 => ?_) (fun c_76 => ?_)
                · skip
                  have hs : sL_notes g a1 = bL_notes_110 gg v1 v2 := hs.trans (by unfold bL_notes_6; rw [if_neg c_12, if_pos c_33, if_neg c_38, if_neg c_44, if_pos c_54, if_pos c_66, if_neg c_76])
                  exact bk_110 gg v1 v2 (hgn) _ _ _ hJ (lv_sub hl [0, 1, 2] rfl) hs
                · skip
                  refine lv_aload_n hx hb dL_notes_79 rfl (lv_at hl 0 rfl) ?_
                  refine lv_iconst (v := 3) hx hb dL_notes_80 (by decide) ?_
                  refine kL_71 X hJ (mX6_sign l E B _ 3 gg.2.1 rfl ((hgn).2.1)) rfl (by omega) at_X hl.1 ⟨Nat.le_of_ble_eq_true rfl, Nat.le_of_ble_eq_true rfl⟩ ⟨Nat.le_refl _, Nat.le_refl _⟩ (rest := []) rfl (Nat.le_of_ble_eq_true rfl) dL_notes_81 (fun H locs hJ => ?_)
                  refine lv_bipush (v := 48) hx hb dL_notes_84 (by decide) ?_
                  refine lv_aload_n hx hb dL_notes_86 rfl (lv_at hl 0 rfl) ?_
                  refine lv_iload_n hx hb dL_notes_87 rfl (lv_at hl 1 rfl) ?_
                  refine lv_iconst (v := 0) hx hb dL_notes_88 (by decide) ?_
                  refine kL_16 X hJ (mX6_ofCart l E B gg v1 0 (hgn)) rfl (by omega) at_X hl.1 ⟨Nat.le_of_ble_eq_true rfl, Nat.le_of_ble_eq_true rfl⟩ ⟨Nat.le_refl _, Nat.le_refl _⟩ (rest := [.int 48, .int (sX6_sign gg.2.1 3)]) rfl (Nat.le_of_ble_eq_true rfl) dL_notes_89 (fun H locs hJ => ?_)
                  refine lv_iadd hx hb dL_notes_92 ?_
                  refine lv_icmp_ne (tgt := 110) hx hb dL_notes_93 (by decide) (fun c_93 => ?_) (fun c_93 => ?_)
                  · skip
                    have hs : sL_notes g a1 = bL_notes_110 gg v1 v2 := hs.trans (by unfold bL_notes_6; rw [if_neg c_12, if_pos c_33, if_neg c_38, if_neg c_44, if_pos c_54, if_pos c_66, if_pos c_76, if_neg c_93])
                    exact bk_110 gg v1 v2 (hgn) _ _ _ hJ (lv_sub hl [0, 1, 2] rfl) hs
                  · skip
                    refine lv_aload_n hx hb dL_notes_96 rfl (lv_at hl 0 rfl) ?_
                    refine lv_iconst (v := 4) hx hb dL_notes_97 (by decide) ?_
                    refine kL_71 X hJ (mX6_sign l E B _ 4 gg.2.1 rfl ((hgn).2.1)) rfl (by omega) at_X hl.1 ⟨Nat.le_of_ble_eq_true rfl, Nat.le_of_ble_eq_true rfl⟩ ⟨Nat.le_refl _, Nat.le_refl _⟩ (rest := []) rfl (Nat.le_of_ble_eq_true rfl) dL_notes_98 (fun H locs hJ => ?_)
                    refine lv_bipush (v := 42) hx hb dL_notes_101 (by decide) ?_
                    refine lv_icmp_ne (tgt := 110) hx hb dL_notes_103 (by decide) (fun c_103 => ?_) (fun c_103 => ?_)
                    · skip
                      have hs : sL_notes g a1 = bL_notes_110 gg v1 v2 := hs.trans (by unfold bL_notes_6; rw [if_neg c_12, if_pos c_33, if_neg c_38, if_neg c_44, if_pos c_54, if_pos c_66, if_pos c_76, if_pos c_93, if_neg c_103])
                      exact bk_110 gg v1 v2 (hgn) _ _ _ hJ (lv_sub hl [0, 1, 2] rfl) hs
                    · skip
                      refine lv_iconst (v := 1) hx hb dL_notes_106 (by decide) ?_
                      refine lv_goto (tgt := 111) hx hb dL_notes_107 (by decide) ?_
                      refine lv_istore_n (lv' := [(3, .int 1), (0, .ref (B + 0)), (1, .int v1), (2, .int v2)]) hx hb dL_notes_111 rfl hl (by decide) rfl (fun ls hl => ?_)
                      refine lv_iconst (v := 0) hx hb dL_notes_112 (by decide) ?_
                      refine lv_istore (lv' := [(4, .int 0), (3, .int 1), (0, .ref (B + 0)), (1, .int v1), (2, .int v2)]) hx hb dL_notes_113 hl (by decide) rfl (fun ls hl => ?_)
                      refine lv_iconst (v := 5) hx hb dL_notes_115 (by decide) ?_
                      refine lv_istore (lv' := [(5, .int 5), (4, .int 0), (3, .int 1), (0, .ref (B + 0)), (1, .int v1), (2, .int v2)]) hx hb dL_notes_116 hl (by decide) rfl (fun ls hl => ?_)
                      have hs : sL_notes g a1 = bL_notes_118 81 gg v1 v2 1 0 5 := hs.trans (by unfold bL_notes_6; rw [if_neg c_12, if_pos c_33, if_neg c_38, if_neg c_44, if_pos c_54, if_pos c_66, if_pos c_76, if_pos c_93, if_pos c_103])
                      exact bk_118 81 gg v1 v2 1 0 5 (by omega) (hgn) (by omega) _ _ _ hJ (lv_sub hl [3, 4, 5, 2, 1, 0] rfl) hs
    · skip
      refine lv_iload_n hx hb dL_notes_15 rfl (lv_at hl 2 rfl) ?_
      refine lv_iconst (v := (-1)) hx hb dL_notes_16 (by decide) ?_
      refine lv_icmp_ne (tgt := 24) hx hb dL_notes_17 (by decide) (fun c_17 => ?_) (fun c_17 => ?_)
      · skip
        refine lv_iconst (v := 0) hx hb dL_notes_24 (by decide) ?_
        have hs : sL_notes g a1 = (0, gg) := hs.trans (by unfold bL_notes_6; rw [if_pos c_12, if_neg c_17])
        exact fin (by rw [hs]; dsimp only; exact hJ) (by rw [hs]) dL_notes_25
      · skip
        refine lv_iconst (v := 1) hx hb dL_notes_20 (by decide) ?_
        refine lv_goto (tgt := 25) hx hb dL_notes_21 (by decide) ?_
        have hs : sL_notes g a1 = (1, gg) := hs.trans (by unfold bL_notes_6; rw [if_pos c_12, if_pos c_17])
        exact fin (by rw [hs]; dsimp only; exact hJ) (by rw [hs]) dL_notes_25
  refine lv_aload_n hx hb dL_notes_0 rfl (lv_at hl 0 rfl) ?_
  refine lv_iload_n hx hb dL_notes_1 rfl (lv_at hl 1 rfl) ?_
  refine kL_68 X hJ (mX6_write l E B g a1 (g.2.1) (g.1 0) rfl ((hgn).2.1) ((hgn).1 0 (by omega))) rfl (by omega) at_X hl.1 ⟨Nat.le_of_ble_eq_true rfl, Nat.le_of_ble_eq_true rfl⟩ ⟨Nat.le_refl _, Nat.le_refl _⟩ (rest := []) rfl (Nat.le_of_ble_eq_true rfl) dL_notes_2 (fun H locs hJ => ?_)
  refine lv_istore_n (lv' := [(2, .int ((sX6_write g.2.1 (g.1 0) a1).1)), (0, .ref (B + 0)), (1, .int a1)]) hx hb dL_notes_5 rfl hl (by decide) rfl (fun ls hl => ?_)
  have hs : sL_notes g a1 = bL_notes_6 (upC g (sX6_write g.2.1 (g.1 0) a1).2) a1 ((sX6_write g.2.1 (g.1 0) a1).1) := by unfold sL_notes; rfl
  exact bk_6 (upC g (sX6_write g.2.1 (g.1 0) a1).2) a1 ((sX6_write g.2.1 (g.1 0) a1).1) (Gn_upC (hgn) (⟨Pd_sX6_write ((hgn).2.1), Sp_sX6_write ((hgn).2.2)⟩)) _ _ _ hJ (lv_sub hl [1, 2, 0] rfl) hs
