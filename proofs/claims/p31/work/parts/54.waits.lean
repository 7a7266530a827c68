def bL_waits_309 (gg : GS) (v10 : Int64) (v15 : Int32) : Int32 × GS := if v15 = 0 then ((0, gg)) else (if (sX6_undo gg).1 < 0 then ((0, (sX6_undo gg).2)) else (if lg_cmp (sL_print ((sX6_undo gg).2)) v10 = 0 then ((1, (sX6_undo gg).2)) else ((0, (sX6_undo gg).2))))
def bL_waits_306 (gg : GS) (v10 : Int64) : Int32 × GS := bL_waits_309 gg v10 0
def bL_waits_302 (gg : GS) (v10 : Int64) : Int32 × GS := bL_waits_309 gg v10 1
def bL_waits_279 (gg : GS) (v4 : Int32) (v10 : Int64) (v12 : Int32) : Int32 × GS := if sX6_ofCart gg v4 5 = v12 + 1 then (bL_waits_306 gg v10) else (bL_waits_302 gg v10)
def bL_waits_217 (gg : GS) (v1 : Int32) (v3 : Int32) (v4 : Int32) (v5 : Int32) (v10 : Int64) (v12 : Int32) : Int32 × GS := bL_waits_306 gg v10
def bL_waits_142 : Nat → GS → Int32 → Int32 → Int32 → Int32 → Int32 → Int32 → Int32 → Int64 → Int32 → Int32 → Int32 → Nat → Int32 × GS
  | 0, gg, _, _, _, _, _, _, _, _, _, _, _, _ => (0, gg)
  | n + 1, gg, v1, v3, v4, v5, v7, v8, v9, v10, v12, v13, v14, v15 => if v3 ≤ nI v15 then (if v13 = -v7 then (if v14 = -v8 then (if sX6_count gg 3 = v9 then (if (sL_hangs gg).1 = 0 then (bL_waits_217 ((sL_hangs gg).2) v1 v3 v4 v5 v10 v12) else (if v4 = v3 then (if v5 = (-1) then (bL_waits_302 ((sL_hangs gg).2) v10) else (bL_waits_306 ((sL_hangs gg).2) v10)) else (if v5 = (-5) then (if sX6_ofCart ((sL_hangs gg).2) v4 5 = v12 then (bL_waits_302 ((sL_hangs gg).2) v10) else (bL_waits_306 ((sL_hangs gg).2) v10)) else (if v5 = (-6) then (bL_waits_279 ((sL_hangs gg).2) v4 v10 v12) else (if v1 < v5 then (bL_waits_279 ((sL_hangs gg).2) v4 v10 v12) else (if sX6_ofCart ((sL_hangs gg).2) v4 5 = v12 + 1 then (bL_waits_302 ((sL_hangs gg).2) v10) else (bL_waits_306 ((sL_hangs gg).2) v10))))))) else (bL_waits_217 gg v1 v3 v4 v5 v10 v12)) else (bL_waits_217 gg v1 v3 v4 v5 v10 v12)) else (bL_waits_217 gg v1 v3 v4 v5 v10 v12)) else (bL_waits_142 n gg v1 v3 v4 v5 v7 v8 v9 v10 v12 (v13 - (sX6_ofCart gg (nI v15) 6)) (v14 - (sX6_ofCart gg (nI v15) 7)) (v15 + 1))
def bL_waits_89 : Nat → GS → Int32 → Int32 → Int32 → Int32 → Int32 → Int32 → Int32 → Int32 → Int64 → Int32 → Int32 → Int32 → Nat → Int32 × GS
  | 0, gg, _, _, _, _, _, _, _, _, _, _, _, _, _ => (0, gg)
  | n + 1, gg, v1, v3, v4, v5, v6, v7, v8, v9, v10, v12, v13, v14, v15 => if v3 ≤ nI v15 then (if (sX6_pass gg v1).1 = v6 then (bL_waits_142 (nn v3 + 1) ((sX6_pass gg v1).2) v1 v3 v4 v5 v7 v8 v9 v10 v12 v13 v14 0) else ((0, (sX6_pass gg v1).2))) else (bL_waits_89 n gg v1 v3 v4 v5 v6 v7 v8 v9 v10 v12 (v13 + (sX6_ofCart gg (nI v15) 6)) (v14 + (sX6_ofCart gg (nI v15) 7)) (v15 + 1))
def bL_waits_80 (gg : GS) (v1 : Int32) (v3 : Int32) (v4 : Int32) (v5 : Int32) (v6 : Int32) (v7 : Int32) (v8 : Int32) (v9 : Int32) (v10 : Int64) (v12 : Int32) : Int32 × GS := bL_waits_89 (nn v3 + 1) gg v1 v3 v4 v5 v6 v7 v8 v9 v10 v12 0 0 0
def bL_waits_61 (gg : GS) (v1 : Int32) (v3 : Int32) (v4 : Int32) (v5 : Int32) (v6 : Int32) (v7 : Int32) (v8 : Int32) (v9 : Int32) (v10 : Int64) : Int32 × GS := if v3 ≤ v4 then (bL_waits_80 gg v1 v3 v4 v5 v6 v7 v8 v9 v10 0) else (bL_waits_80 gg v1 v3 v4 v5 v6 v7 v8 v9 v10 (sX6_ofCart gg v4 5))
def sL_waits (g : GS) (a1 : Int32) (a2 : Int32) : Int32 × GS := bL_waits_61 ((sX6_would ((sX6_would ((sX6_would ((sX6_would ((sX6_overIn g (sL_low a2 ((sX6_count g 2) + 1))).2) a1 0).2) a1 1).2) a1 2).2) a1 3).2) a1 (sX6_count g 2) (sL_low a2 ((sX6_count g 2) + 1)) ((sX6_overIn g (sL_low a2 ((sX6_count g 2) + 1))).1) ((sX6_would ((sX6_overIn g (sL_low a2 ((sX6_count g 2) + 1))).2) a1 0).1) ((sX6_would ((sX6_would ((sX6_overIn g (sL_low a2 ((sX6_count g 2) + 1))).2) a1 0).2) a1 1).1) ((sX6_would ((sX6_would ((sX6_would ((sX6_overIn g (sL_low a2 ((sX6_count g 2) + 1))).2) a1 0).2) a1 1).2) a1 2).1) ((sX6_would ((sX6_would ((sX6_would ((sX6_would ((sX6_overIn g (sL_low a2 ((sX6_count g 2) + 1))).2) a1 0).2) a1 1).2) a1 2).2) a1 3).1) (sL_print ((sX6_would ((sX6_would ((sX6_would ((sX6_would ((sX6_overIn g (sL_low a2 ((sX6_count g 2) + 1))).2) a1 0).2) a1 1).2) a1 2).2) a1 3).2))
theorem b01_bL_waits_309 {gg : GS} {v10 : Int64} {v15 : Int32} : b01 (bL_waits_309 gg v10 v15).1 := by
  unfold bL_waits_309
  exact b01_i2 (Or.inl rfl) (b01_i2 (Or.inl rfl) (b01_i2 (Or.inr rfl) (Or.inl rfl)))
theorem b01_bL_waits_306 {gg : GS} {v10 : Int64} : b01 (bL_waits_306 gg v10).1 := by
  unfold bL_waits_306
  exact b01_bL_waits_309
theorem b01_bL_waits_302 {gg : GS} {v10 : Int64} : b01 (bL_waits_302 gg v10).1 := by
  unfold bL_waits_302
  exact b01_bL_waits_309
theorem b01_bL_waits_279 {gg : GS} {v4 : Int32} {v10 : Int64} {v12 : Int32} : b01 (bL_waits_279 gg v4 v10 v12).1 := by
  unfold bL_waits_279
  exact b01_i2 (b01_bL_waits_306) (b01_bL_waits_302)
theorem b01_bL_waits_217 {gg : GS} {v1 : Int32} {v3 : Int32} {v4 : Int32} {v5 : Int32} {v10 : Int64} {v12 : Int32} : b01 (bL_waits_217 gg v1 v3 v4 v5 v10 v12).1 := by
  unfold bL_waits_217
  exact b01_bL_waits_306
theorem b01_bL_waits_142 : ∀ (n : Nat) (gg : GS) (v1 : Int32) (v3 : Int32) (v4 : Int32) (v5 : Int32) (v7 : Int32) (v8 : Int32) (v9 : Int32) (v10 : Int64) (v12 : Int32) (v13 : Int32) (v14 : Int32) (v15 : Nat), b01 (bL_waits_142 n gg v1 v3 v4 v5 v7 v8 v9 v10 v12 v13 v14 v15).1 := by
  intro n
  induction n with
  | zero => intro gg v1 v3 v4 v5 v7 v8 v9 v10 v12 v13 v14 v15; exact Or.inl rfl
  | succ n ih =>
    intro gg v1 v3 v4 v5 v7 v8 v9 v10 v12 v13 v14 v15
    rw [bL_waits_142]
    exact b01_i2 (b01_i2 (b01_i2 (b01_i2 (b01_i2 (b01_bL_waits_217) (b01_i2 (b01_i2 (b01_bL_waits_302) (b01_bL_waits_306)) (b01_i2 (b01_i2 (b01_bL_waits_302) (b01_bL_waits_306)) (b01_i2 (b01_bL_waits_279) (b01_i2 (b01_bL_waits_279) (b01_i2 (b01_bL_waits_302) (b01_bL_waits_306))))))) (b01_bL_waits_217)) (b01_bL_waits_217)) (b01_bL_waits_217)) (ih _ _ _ _ _ _ _ _ _ _ _ _ _)
theorem b01_bL_waits_89 : ∀ (n : Nat) (gg : GS) (v1 : Int32) (v3 : Int32) (v4 : Int32) (v5 : Int32) (v6 : Int32) (v7 : Int32) (v8 : Int32) (v9 : Int32) (v10 : Int64) (v12 : Int32) (v13 : Int32) (v14 : Int32) (v15 : Nat), b01 (bL_waits_89 n gg v1 v3 v4 v5 v6 v7 v8 v9 v10 v12 v13 v14 v15).1 := by
  intro n
  induction n with
  | zero => intro gg v1 v3 v4 v5 v6 v7 v8 v9 v10 v12 v13 v14 v15; exact Or.inl rfl
  | succ n ih =>
    intro gg v1 v3 v4 v5 v6 v7 v8 v9 v10 v12 v13 v14 v15
    rw [bL_waits_89]
    exact b01_i2 (b01_i2 (b01_bL_waits_142 _ _ _ _ _ _ _ _ _ _ _ _ _ _) (Or.inl rfl)) (ih _ _ _ _ _ _ _ _ _ _ _ _ _ _)
theorem b01_bL_waits_80 {gg : GS} {v1 : Int32} {v3 : Int32} {v4 : Int32} {v5 : Int32} {v6 : Int32} {v7 : Int32} {v8 : Int32} {v9 : Int32} {v10 : Int64} {v12 : Int32} : b01 (bL_waits_80 gg v1 v3 v4 v5 v6 v7 v8 v9 v10 v12).1 := by
  unfold bL_waits_80
  exact b01_bL_waits_89 _ _ _ _ _ _ _ _ _ _ _ _ _ _ _
theorem b01_bL_waits_61 {gg : GS} {v1 : Int32} {v3 : Int32} {v4 : Int32} {v5 : Int32} {v6 : Int32} {v7 : Int32} {v8 : Int32} {v9 : Int32} {v10 : Int64} : b01 (bL_waits_61 gg v1 v3 v4 v5 v6 v7 v8 v9 v10).1 := by
  unfold bL_waits_61
  exact b01_i2 (b01_bL_waits_80) (b01_bL_waits_80)
theorem b01_sL_waits {g : GS} {a1 : Int32} {a2 : Int32} : b01 (sL_waits g a1 a2).1 := by
  unfold sL_waits
  exact b01_bL_waits_61
theorem Gn_bL_waits_309 {gg : GS} {v10 : Int64} {v15 : Int32} (h : Gn gg) : Gn (bL_waits_309 gg v10 v15).2 := by
  unfold bL_waits_309
  exact Gn_i2 (Gn_p2 (h)) (Gn_i2 (Gn_p2 (Gn_sX6_undo (h))) (Gn_i2 (Gn_p2 (Gn_sX6_undo (h))) (Gn_p2 (Gn_sX6_undo (h)))))
theorem Gn_bL_waits_306 {gg : GS} {v10 : Int64} (h : Gn gg) : Gn (bL_waits_306 gg v10).2 := by
  unfold bL_waits_306
  exact Gn_bL_waits_309 (h)
theorem Gn_bL_waits_302 {gg : GS} {v10 : Int64} (h : Gn gg) : Gn (bL_waits_302 gg v10).2 := by
  unfold bL_waits_302
  exact Gn_bL_waits_309 (h)
theorem Gn_bL_waits_279 {gg : GS} {v4 : Int32} {v10 : Int64} {v12 : Int32} (h : Gn gg) : Gn (bL_waits_279 gg v4 v10 v12).2 := by
  unfold bL_waits_279
  exact Gn_i2 (Gn_bL_waits_306 (h)) (Gn_bL_waits_302 (h))
theorem Gn_bL_waits_217 {gg : GS} {v1 : Int32} {v3 : Int32} {v4 : Int32} {v5 : Int32} {v10 : Int64} {v12 : Int32} (h : Gn gg) : Gn (bL_waits_217 gg v1 v3 v4 v5 v10 v12).2 := by
  unfold bL_waits_217
  exact Gn_bL_waits_306 (h)
theorem Gn_bL_waits_142 : ∀ (n : Nat) (gg : GS) (v1 : Int32) (v3 : Int32) (v4 : Int32) (v5 : Int32) (v7 : Int32) (v8 : Int32) (v9 : Int32) (v10 : Int64) (v12 : Int32) (v13 : Int32) (v14 : Int32) (v15 : Nat), Gn gg → Gn (bL_waits_142 n gg v1 v3 v4 v5 v7 v8 v9 v10 v12 v13 v14 v15).2 := by
  intro n
  induction n with
  | zero => intro gg v1 v3 v4 v5 v7 v8 v9 v10 v12 v13 v14 v15 h; exact h
  | succ n ih =>
    intro gg v1 v3 v4 v5 v7 v8 v9 v10 v12 v13 v14 v15 h
    rw [bL_waits_142]
    exact Gn_i2 (Gn_i2 (Gn_i2 (Gn_i2 (Gn_i2 (Gn_bL_waits_217 (Gn_sL_hangs (h))) (Gn_i2 (Gn_i2 (Gn_bL_waits_302 (Gn_sL_hangs (h))) (Gn_bL_waits_306 (Gn_sL_hangs (h)))) (Gn_i2 (Gn_i2 (Gn_bL_waits_302 (Gn_sL_hangs (h))) (Gn_bL_waits_306 (Gn_sL_hangs (h)))) (Gn_i2 (Gn_bL_waits_279 (Gn_sL_hangs (h))) (Gn_i2 (Gn_bL_waits_279 (Gn_sL_hangs (h))) (Gn_i2 (Gn_bL_waits_302 (Gn_sL_hangs (h))) (Gn_bL_waits_306 (Gn_sL_hangs (h))))))))) (Gn_bL_waits_217 (h))) (Gn_bL_waits_217 (h))) (Gn_bL_waits_217 (h))) (ih _ _ _ _ _ _ _ _ _ _ _ _ _ (h))
theorem Gn_bL_waits_89 : ∀ (n : Nat) (gg : GS) (v1 : Int32) (v3 : Int32) (v4 : Int32) (v5 : Int32) (v6 : Int32) (v7 : Int32) (v8 : Int32) (v9 : Int32) (v10 : Int64) (v12 : Int32) (v13 : Int32) (v14 : Int32) (v15 : Nat), Gn gg → Gn (bL_waits_89 n gg v1 v3 v4 v5 v6 v7 v8 v9 v10 v12 v13 v14 v15).2 := by
  intro n
  induction n with
  | zero => intro gg v1 v3 v4 v5 v6 v7 v8 v9 v10 v12 v13 v14 v15 h; exact h
  | succ n ih =>
    intro gg v1 v3 v4 v5 v6 v7 v8 v9 v10 v12 v13 v14 v15 h
    rw [bL_waits_89]
    exact Gn_i2 (Gn_i2 (Gn_bL_waits_142 _ _ _ _ _ _ _ _ _ _ _ _ _ _ (Gn_sX6_pass (h))) (Gn_p2 (Gn_sX6_pass (h)))) (ih _ _ _ _ _ _ _ _ _ _ _ _ _ _ (h))
theorem Gn_bL_waits_80 {gg : GS} {v1 : Int32} {v3 : Int32} {v4 : Int32} {v5 : Int32} {v6 : Int32} {v7 : Int32} {v8 : Int32} {v9 : Int32} {v10 : Int64} {v12 : Int32} (h : Gn gg) : Gn (bL_waits_80 gg v1 v3 v4 v5 v6 v7 v8 v9 v10 v12).2 := by
  unfold bL_waits_80
  exact Gn_bL_waits_89 _ _ _ _ _ _ _ _ _ _ _ _ _ _ _ (h)
theorem Gn_bL_waits_61 {gg : GS} {v1 : Int32} {v3 : Int32} {v4 : Int32} {v5 : Int32} {v6 : Int32} {v7 : Int32} {v8 : Int32} {v9 : Int32} {v10 : Int64} (h : Gn gg) : Gn (bL_waits_61 gg v1 v3 v4 v5 v6 v7 v8 v9 v10).2 := by
  unfold bL_waits_61
  exact Gn_i2 (Gn_bL_waits_80 (h)) (Gn_bL_waits_80 (h))
theorem Gn_sL_waits {g : GS} {a1 : Int32} {a2 : Int32} (h : Gn g) : Gn (sL_waits g a1 a2).2 := by
  unfold sL_waits
  exact Gn_bL_waits_61 (Gn_sX6_would (Gn_sX6_would (Gn_sX6_would (Gn_sX6_would (Gn_sX6_overIn (h))))))
set_option maxHeartbeats 4000000 in
set_option maxRecDepth 100000 in
theorem mL_waits (l : Launch) (E : EE) (B : Nat) (g : GS) (a1 : Int32) (a2 : Int32) (hgn : Gn g) : CG l yL_waits cL_waits 16 (some .boolean) 7 172 E B [.ref (B + 0), .int a1, .int a2] g (some (.int (sL_waits g a1 a2).1)) ((sL_waits g a1 a2).2) := by
  refine mkI (own := RL) (ty := .boolean) rfl (by decide) rfl ((b01_sL_waits).nar) (Nat.le_of_ble_eq_true rfl) (fun P_ e_ s_ m_ a_ below meth cd Q X fin ls hl hJ => ?_)
  have hx := X.1
  have hb := X.2.1
  have hl : lv_has ls 16 [(0, .ref (B + 0)), (1, .int a1), (2, .int a2)] := hl
  have bk_309 : ∀ (gg : GS) (v10 : Int64) (v15 : Int32), (Gn gg) → ∀ (H : Heap) (locs : List Loc) (ls : Array Slot), JG E B s_ gg H locs → lv_has ls 16 [(0, .ref (B + 0)), (10, .long v10), (15, .int v15)] → sL_waits g a1 a2 = bL_waits_309 gg v10 v15 → W P_ l e_ (rmm 7 172 0 0) s_ m_ a_ below meth cd H locs 0 0 Q (F0 m_ 309 ls []) := by
    intro gg v10 v15 hgn H locs ls hJ hl hs
    refine lv_iload hx hb dL_waits_309 (lv_at hl 2 rfl) ?_
    refine lv_if_eq (tgt := 335) hx hb dL_waits_311 (by decide) (fun c_311 => ?_) (fun c_311 => ?_)
    · skip
      refine lv_iconst (v := 0) hx hb dL_waits_335 (by decide) ?_
      have hs : sL_waits g a1 a2 = (0, gg) := hs.trans (by unfold bL_waits_309; rw [if_pos c_311])
      exact fin (by rw [hs]; dsimp only; exact hJ) (by rw [hs]) dL_waits_336
    · skip
      refine lv_aload_n hx hb dL_waits_314 rfl (lv_at hl 0 rfl) ?_
      refine kL_64 X hJ (mX6_undo l E B gg (hgn)) rfl (by omega) at_X hl.1 ⟨Nat.le_of_ble_eq_true rfl, Nat.le_of_ble_eq_true rfl⟩ ⟨Nat.le_refl _, Nat.le_refl _⟩ (rest := []) rfl (Nat.le_of_ble_eq_true rfl) dL_waits_315 (fun H locs hJ => ?_)
      refine lv_if_lt (tgt := 335) hx hb dL_waits_318 (by decide) (fun c_318 => ?_) (fun c_318 => ?_)
      · skip
        refine lv_iconst (v := 0) hx hb dL_waits_335 (by decide) ?_
        have hs : sL_waits g a1 a2 = (0, (sX6_undo gg).2) := hs.trans (by unfold bL_waits_309; rw [if_neg c_311, if_pos c_318])
        exact fin (by rw [hs]; dsimp only; exact hJ) (by rw [hs]) dL_waits_336
      · skip
        refine lv_aload_n hx hb dL_waits_321 rfl (lv_at hl 0 rfl) ?_
        refine kL_53 X hJ (mL_print l E B ((sX6_undo gg).2) (Gn_sX6_undo (hgn))) rfl hl.1 ⟨Nat.le_of_ble_eq_true rfl, Nat.le_of_ble_eq_true rfl⟩ ⟨Nat.le_refl _, Nat.le_refl _⟩ (rest := []) rfl (Nat.le_of_ble_eq_true rfl) dL_waits_322 (fun H locs hJ => ?_)
        refine lv_lload hx hb dL_waits_325 (lv_at hl 1 rfl) ?_
        refine W.lcmp hx hb dL_waits_327 ?_
        refine lv_if_ne (tgt := 335) hx hb dL_waits_328 (by decide) (fun c_328 => ?_) (fun c_328 => ?_)
        · skip
          refine lv_iconst (v := 0) hx hb dL_waits_335 (by decide) ?_
          have hs : sL_waits g a1 a2 = (0, (sX6_undo gg).2) := hs.trans (by unfold bL_waits_309; rw [if_neg c_311, if_neg c_318, if_neg c_328])
          exact fin (by rw [hs]; dsimp only; exact hJ) (by rw [hs]) dL_waits_336
        · skip
          refine lv_iconst (v := 1) hx hb dL_waits_331 (by decide) ?_
          refine lv_goto (tgt := 336) hx hb dL_waits_332 (by decide) ?_
          have hs : sL_waits g a1 a2 = (1, (sX6_undo gg).2) := hs.trans (by unfold bL_waits_309; rw [if_neg c_311, if_neg c_318, if_pos c_328])
          exact fin (by rw [hs]; dsimp only; exact hJ) (by rw [hs]) dL_waits_336
  have bk_306 : ∀ (gg : GS) (v10 : Int64), (Gn gg) → ∀ (H : Heap) (locs : List Loc) (ls : Array Slot), JG E B s_ gg H locs → lv_has ls 16 [(0, .ref (B + 0)), (10, .long v10)] → sL_waits g a1 a2 = bL_waits_306 gg v10 → W P_ l e_ (rmm 7 172 0 0) s_ m_ a_ below meth cd H locs 0 0 Q (F0 m_ 306 ls []) := by
    intro gg v10 hgn H locs ls hJ hl hs
    refine lv_iconst (v := 0) hx hb dL_waits_306 (by decide) ?_
    refine lv_istore (lv' := [(15, .int 0), (0, .ref (B + 0)), (10, .long v10)]) hx hb dL_waits_307 hl (by decide) rfl (fun ls hl => ?_)
    have hs : sL_waits g a1 a2 = bL_waits_309 gg v10 0 := hs.trans (by unfold bL_waits_306; rfl)
    exact bk_309 gg v10 0 (hgn) _ _ _ hJ (lv_sub hl [1, 2, 0] rfl) hs
  have bk_302 : ∀ (gg : GS) (v10 : Int64), (Gn gg) → ∀ (H : Heap) (locs : List Loc) (ls : Array Slot), JG E B s_ gg H locs → lv_has ls 16 [(0, .ref (B + 0)), (10, .long v10)] → sL_waits g a1 a2 = bL_waits_302 gg v10 → W P_ l e_ (rmm 7 172 0 0) s_ m_ a_ below meth cd H locs 0 0 Q (F0 m_ 302 ls []) := by
    intro gg v10 hgn H locs ls hJ hl hs
    refine lv_iconst (v := 1) hx hb dL_waits_302 (by decide) ?_
    refine lv_goto (tgt := 307) hx hb dL_waits_303 (by decide) ?_
    refine lv_istore (lv' := [(15, .int 1), (0, .ref (B + 0)), (10, .long v10)]) hx hb dL_waits_307 hl (by decide) rfl (fun ls hl => ?_)
    have hs : sL_waits g a1 a2 = bL_waits_309 gg v10 1 := hs.trans (by unfold bL_waits_302; rfl)
    exact bk_309 gg v10 1 (hgn) _ _ _ hJ (lv_sub hl [1, 2, 0] rfl) hs
  have bk_279 : ∀ (gg : GS) (v4 : Int32) (v10 : Int64) (v12 : Int32), (Gn gg) → ∀ (H : Heap) (locs : List Loc) (ls : Array Slot), JG E B s_ gg H locs → lv_has ls 16 [(0, .ref (B + 0)), (4, .int v4), (10, .long v10), (12, .int v12)] → sL_waits g a1 a2 = bL_waits_279 gg v4 v10 v12 → W P_ l e_ (rmm 7 172 0 0) s_ m_ a_ below meth cd H locs 0 0 Q (F0 m_ 279 ls []) := by
    intro gg v4 v10 v12 hgn H locs ls hJ hl hs
    refine lv_iconst (v := 0) hx hb dL_waits_279 (by decide) ?_
    refine lv_aload_n hx hb dL_waits_280 rfl (lv_at hl 0 rfl) ?_
    refine lv_iload hx hb dL_waits_281 (lv_at hl 1 rfl) ?_
    refine lv_iconst (v := 5) hx hb dL_waits_283 (by decide) ?_
    refine kL_16 X hJ (mX6_ofCart l E B gg v4 5 (hgn)) rfl (by omega) at_X hl.1 ⟨Nat.le_of_ble_eq_true rfl, Nat.le_of_ble_eq_true rfl⟩ ⟨Nat.le_refl _, Nat.le_refl _⟩ (rest := [.int 0]) rfl (Nat.le_of_ble_eq_true rfl) dL_waits_284 (fun H locs hJ => ?_)
    refine lv_iload hx hb dL_waits_287 (lv_at hl 3 rfl) ?_
    refine lv_iconst (v := 1) hx hb dL_waits_289 (by decide) ?_
    refine lv_iadd hx hb dL_waits_290 ?_
    refine lv_icmp_ne (tgt := 298) hx hb dL_waits_291 (by decide) (fun c_291 => ?_) (fun c_291 => ?_)
    · skip
      refine lv_iconst (v := 0) hx hb dL_waits_298 (by decide) ?_
      refine lv_icmp_ne (tgt := 306) hx hb dL_waits_299 (by decide) (fun c_299 => ?_) (fun c_299 => ?_)
      · exact absurd c_299 (by decide)
      · skip
        have hs : sL_waits g a1 a2 = bL_waits_302 gg v10 := hs.trans (by unfold bL_waits_279; rw [if_neg c_291])
        exact bk_302 gg v10 (hgn) _ _ _ hJ (lv_sub hl [0, 2] rfl) hs
    · skip
      refine lv_iconst (v := 1) hx hb dL_waits_294 (by decide) ?_
      refine lv_goto (tgt := 299) hx hb dL_waits_295 (by decide) ?_
      refine lv_icmp_ne (tgt := 306) hx hb dL_waits_299 (by decide) (fun c_299 => ?_) (fun c_299 => ?_)
      · skip
        have hs : sL_waits g a1 a2 = bL_waits_306 gg v10 := hs.trans (by unfold bL_waits_279; rw [if_pos c_291])
        exact bk_306 gg v10 (hgn) _ _ _ hJ (lv_sub hl [0, 2] rfl) hs
      · exact absurd c_299 (by decide)
  have bk_217 : ∀ (gg : GS) (v1 : Int32) (v3 : Int32) (v4 : Int32) (v5 : Int32) (v10 : Int64) (v12 : Int32), (Gn gg) → ∀ (H : Heap) (locs : List Loc) (ls : Array Slot), JG E B s_ gg H locs → lv_has ls 16 [(0, .ref (B + 0)), (1, .int v1), (3, .int v3), (4, .int v4), (5, .int v5), (10, .long v10), (12, .int v12)] → sL_waits g a1 a2 = bL_waits_217 gg v1 v3 v4 v5 v10 v12 → W P_ l e_ (rmm 7 172 0 0) s_ m_ a_ below meth cd H locs 0 0 Q (F0 m_ 217 ls []) := by
    intro gg v1 v3 v4 v5 v10 v12 hgn H locs ls hJ hl hs
    refine lv_iconst (v := 0) hx hb dL_waits_217 (by decide) ?_
    refine lv_istore (lv' := [(15, .int 0), (0, .ref (B + 0)), (1, .int v1), (3, .int v3), (4, .int v4), (5, .int v5), (10, .long v10), (12, .int v12)]) hx hb dL_waits_218 hl (by decide) rfl (fun ls hl => ?_)
    refine lv_iload hx hb dL_waits_220 (lv_at hl 0 rfl) ?_
    refine lv_if_eq (tgt := 306) hx hb dL_waits_222 (by decide) (fun c_222 => ?_) (fun c_222 => ?_)
    · skip
      have hs : sL_waits g a1 a2 = bL_waits_306 gg v10 := hs.trans (by unfold bL_waits_217; rfl)
      exact bk_306 gg v10 (hgn) _ _ _ hJ (lv_sub hl [1, 6] rfl) hs
    · exact absurd c_222 (by decide)
  have bk_142 : ∀ (n : Nat) (gg : GS) (v1 : Int32) (v3 : Int32) (v4 : Int32) (v5 : Int32) (v7 : Int32) (v8 : Int32) (v9 : Int32) (v10 : Int64) (v12 : Int32) (v13 : Int32) (v14 : Int32) (v15 : Nat), nn v3 - v15 < n → (Gn gg) → (v15 ≤ nn v3) → ∀ (H : Heap) (locs : List Loc) (ls : Array Slot), JG E B s_ gg H locs → lv_has ls 16 [(0, .ref (B + 0)), (1, .int v1), (3, .int v3), (4, .int v4), (5, .int v5), (7, .int v7), (8, .int v8), (9, .int v9), (10, .long v10), (12, .int v12), (13, .int v13), (14, .int v14), (15, .int (nI v15))] → sL_waits g a1 a2 = bL_waits_142 n gg v1 v3 v4 v5 v7 v8 v9 v10 v12 v13 v14 v15 → W P_ l e_ (rmm 7 172 0 0) s_ m_ a_ below meth cd H locs 0 0 Q (F0 m_ 142 ls []) := by
    intro n
    induction n with
    | zero => intro gg v1 v3 v4 v5 v7 v8 v9 v10 v12 v13 v14 v15 hm; exact absurd hm (Nat.not_lt_zero _)
    | succ n_142 ih_142 =>
      intro gg v1 v3 v4 v5 v7 v8 v9 v10 v12 v13 v14 v15 hm hgn hp_142 H locs ls hJ hl hs
      refine lv_iload hx hb dL_waits_142 (lv_at hl 12 rfl) ?_
      refine lv_iload_n hx hb dL_waits_144 rfl (lv_at hl 2 rfl) ?_
      refine lv_icmp_ge (tgt := 180) hx hb dL_waits_145 (by decide) (fun c_145 => ?_) (fun c_145 => ?_)
      · skip
        refine lv_iload hx hb dL_waits_180 (lv_at hl 10 rfl) ?_
        refine lv_iload hx hb dL_waits_182 (lv_at hl 5 rfl) ?_
        refine lv_ineg hx hb dL_waits_184 ?_
        refine lv_icmp_ne (tgt := 217) hx hb dL_waits_185 (by decide) (fun c_185 => ?_) (fun c_185 => ?_)
        · skip
          have hs : sL_waits g a1 a2 = bL_waits_217 gg v1 v3 v4 v5 v10 v12 := hs.trans (by rw [bL_waits_142, if_pos c_145, if_neg c_185])
          exact bk_217 gg v1 v3 v4 v5 v10 v12 (hgn) _ _ _ hJ (lv_sub hl [0, 1, 2, 3, 4, 8, 9] rfl) hs
        · skip
          refine lv_iload hx hb dL_waits_188 (lv_at hl 11 rfl) ?_
          refine lv_iload hx hb dL_waits_190 (lv_at hl 6 rfl) ?_
          refine lv_ineg hx hb dL_waits_192 ?_
          refine lv_icmp_ne (tgt := 217) hx hb dL_waits_193 (by decide) (fun c_193 => ?_) (fun c_193 => ?_)
          · skip
            have hs : sL_waits g a1 a2 = bL_waits_217 gg v1 v3 v4 v5 v10 v12 := hs.trans (by rw [bL_waits_142, if_pos c_145, if_pos c_185, if_neg c_193])
            exact bk_217 gg v1 v3 v4 v5 v10 v12 (hgn) _ _ _ hJ (lv_sub hl [0, 1, 2, 3, 4, 8, 9] rfl) hs
          · skip
            refine lv_aload_n hx hb dL_waits_196 rfl (lv_at hl 0 rfl) ?_
            refine lv_iconst (v := 3) hx hb dL_waits_197 (by decide) ?_
            refine kL_10 X hJ (mX6_count l E B gg 3 (hgn)) rfl (by omega) at_X hl.1 ⟨Nat.le_of_ble_eq_true rfl, Nat.le_of_ble_eq_true rfl⟩ ⟨Nat.le_refl _, Nat.le_refl _⟩ (rest := []) rfl (Nat.le_of_ble_eq_true rfl) dL_waits_198 (fun H locs hJ => ?_)
            refine lv_iload hx hb dL_waits_201 (lv_at hl 7 rfl) ?_
            refine lv_icmp_ne (tgt := 217) hx hb dL_waits_203 (by decide) (fun c_203 => ?_) (fun c_203 => ?_)
            · skip
              have hs : sL_waits g a1 a2 = bL_waits_217 gg v1 v3 v4 v5 v10 v12 := hs.trans (by rw [bL_waits_142, if_pos c_145, if_pos c_185, if_pos c_193, if_neg c_203])
              exact bk_217 gg v1 v3 v4 v5 v10 v12 (hgn) _ _ _ hJ (lv_sub hl [0, 1, 2, 3, 4, 8, 9] rfl) hs
            · skip
              refine lv_aload_n hx hb dL_waits_206 rfl (lv_at hl 0 rfl) ?_
              refine kL_60 X hJ (mL_hangs l E B gg (hgn)) rfl hl.1 ⟨Nat.le_of_ble_eq_true rfl, Nat.le_of_ble_eq_true rfl⟩ ⟨Nat.le_refl _, Nat.le_refl _⟩ (rest := []) rfl (Nat.le_of_ble_eq_true rfl) dL_waits_207 (fun H locs hJ => ?_)
              refine lv_if_eq (tgt := 217) hx hb dL_waits_210 (by decide) (fun c_210 => ?_) (fun c_210 => ?_)
              · skip
                have hs : sL_waits g a1 a2 = bL_waits_217 ((sL_hangs gg).2) v1 v3 v4 v5 v10 v12 := hs.trans (by rw [bL_waits_142, if_pos c_145, if_pos c_185, if_pos c_193, if_pos c_203, if_pos c_210])
                exact bk_217 ((sL_hangs gg).2) v1 v3 v4 v5 v10 v12 (Gn_sL_hangs (hgn)) _ _ _ hJ (lv_sub hl [0, 1, 2, 3, 4, 8, 9] rfl) hs
              · skip
                refine lv_iconst (v := 1) hx hb dL_waits_213 (by decide) ?_
                refine lv_goto (tgt := 218) hx hb dL_waits_214 (by decide) ?_
                refine lv_istore (lv' := [(15, .int 1), (0, .ref (B + 0)), (1, .int v1), (3, .int v3), (4, .int v4), (5, .int v5), (7, .int v7), (8, .int v8), (9, .int v9), (10, .long v10), (12, .int v12), (13, .int v13), (14, .int v14)]) hx hb dL_waits_218 hl (by decide) rfl (fun ls hl => ?_)
                refine lv_iload hx hb dL_waits_220 (lv_at hl 0 rfl) ?_
                refine lv_if_eq (tgt := 306) hx hb dL_waits_222 (by decide) (fun c_222 => ?_) (fun c_222 => ?_)
                · exact absurd c_222 (by decide)
                · skip
                  refine lv_iload hx hb dL_waits_225 (lv_at hl 4 rfl) ?_
                  refine lv_iload_n hx hb dL_waits_227 rfl (lv_at hl 3 rfl) ?_
                  refine lv_icmp_ne (tgt := 240) hx hb dL_waits_228 (by decide) (fun c_228 => ?_) (fun c_228 => ?_)
                  · skip
                    refine lv_iload hx hb dL_waits_240 (lv_at hl 5 rfl) ?_
                    refine lv_bipush (v := (-5)) hx hb dL_waits_242 (by decide) ?_
                    refine lv_icmp_ne (tgt := 262) hx hb dL_waits_244 (by decide) (fun c_244 => ?_) (fun c_244 => ?_)
                    · skip
                      refine lv_iload hx hb dL_waits_262 (lv_at hl 5 rfl) ?_
                      refine lv_bipush (v := (-6)) hx hb dL_waits_264 (by decide) ?_
                      refine lv_icmp_eq (tgt := 279) hx hb dL_waits_266 (by decide) (fun c_266 => ?_) (fun c_266 => ?_)
                      · skip
                        have hs : sL_waits g a1 a2 = bL_waits_279 ((sL_hangs gg).2) v4 v10 v12 := hs.trans (by rw [bL_waits_142, if_pos c_145, if_pos c_185, if_pos c_193, if_pos c_203, if_neg c_210, if_neg c_228, if_neg c_244, if_pos c_266])
                        exact bk_279 ((sL_hangs gg).2) v4 v10 v12 (Gn_sL_hangs (hgn)) _ _ _ hJ (lv_sub hl [1, 4, 9, 10] rfl) hs
                      · skip
                        refine lv_iload hx hb dL_waits_269 (lv_at hl 5 rfl) ?_
                        refine lv_iload_n hx hb dL_waits_271 rfl (lv_at hl 2 rfl) ?_
                        refine lv_icmp_gt (tgt := 279) hx hb dL_waits_272 (by decide) (fun c_272 => ?_) (fun c_272 => ?_)
                        · skip
                          have hs : sL_waits g a1 a2 = bL_waits_279 ((sL_hangs gg).2) v4 v10 v12 := hs.trans (by rw [bL_waits_142, if_pos c_145, if_pos c_185, if_pos c_193, if_pos c_203, if_neg c_210, if_neg c_228, if_neg c_244, if_neg c_266, if_pos c_272])
                          exact bk_279 ((sL_hangs gg).2) v4 v10 v12 (Gn_sL_hangs (hgn)) _ _ _ hJ (lv_sub hl [1, 4, 9, 10] rfl) hs
                        · skip
                          refine lv_iconst (v := 1) hx hb dL_waits_275 (by decide) ?_
                          refine lv_goto (tgt := 280) hx hb dL_waits_276 (by decide) ?_
                          refine lv_aload_n hx hb dL_waits_280 rfl (lv_at hl 1 rfl) ?_
                          refine lv_iload hx hb dL_waits_281 (lv_at hl 4 rfl) ?_
                          refine lv_iconst (v := 5) hx hb dL_waits_283 (by decide) ?_
                          refine kL_16 X hJ (mX6_ofCart l E B ((sL_hangs gg).2) v4 5 (Gn_sL_hangs (hgn))) rfl (by omega) at_X hl.1 ⟨Nat.le_of_ble_eq_true rfl, Nat.le_of_ble_eq_true rfl⟩ ⟨Nat.le_refl _, Nat.le_refl _⟩ (rest := [.int 1]) rfl (Nat.le_of_ble_eq_true rfl) dL_waits_284 (fun H locs hJ => ?_)
                          refine lv_iload hx hb dL_waits_287 (lv_at hl 10 rfl) ?_
                          refine lv_iconst (v := 1) hx hb dL_waits_289 (by decide) ?_
                          refine lv_iadd hx hb dL_waits_290 ?_
                          refine lv_icmp_ne (tgt := 298) hx hb dL_waits_291 (by decide) (fun c_291 => ?_) (fun c_291 => ?_)
                          · skip
                            refine lv_iconst (v := 0) hx hb dL_waits_298 (by decide) ?_
                            refine lv_icmp_ne (tgt := 306) hx hb dL_waits_299 (by decide) (fun c_299 => ?_) (fun c_299 => ?_)
                            · skip
                              have hs : sL_waits g a1 a2 = bL_waits_306 ((sL_hangs gg).2) v10 := hs.trans (by rw [bL_waits_142, if_pos c_145, if_pos c_185, if_pos c_193, if_pos c_203, if_neg c_210, if_neg c_228, if_neg c_244, if_neg c_266, if_neg c_272, if_neg c_291])
                              exact bk_306 ((sL_hangs gg).2) v10 (Gn_sL_hangs (hgn)) _ _ _ hJ (lv_sub hl [1, 9] rfl) hs
                            · exact absurd c_299 (by decide)
                          · skip
                            refine lv_iconst (v := 1) hx hb dL_waits_294 (by decide) ?_
                            refine lv_goto (tgt := 299) hx hb dL_waits_295 (by decide) ?_
                            refine lv_icmp_ne (tgt := 306) hx hb dL_waits_299 (by decide) (fun c_299 => ?_) (fun c_299 => ?_)
                            · exact absurd c_299 (by decide)
                            · skip
                              have hs : sL_waits g a1 a2 = bL_waits_302 ((sL_hangs gg).2) v10 := hs.trans (by rw [bL_waits_142, if_pos c_145, if_pos c_185, if_pos c_193, if_pos c_203, if_neg c_210, if_neg c_228, if_neg c_244, if_neg c_266, if_neg c_272, if_pos c_291])
                              exact bk_302 ((sL_hangs gg).2) v10 (Gn_sL_hangs (hgn)) _ _ _ hJ (lv_sub hl [1, 9] rfl) hs
                    · skip
                      refine lv_aload_n hx hb dL_waits_247 rfl (lv_at hl 1 rfl) ?_
                      refine lv_iload hx hb dL_waits_248 (lv_at hl 4 rfl) ?_
                      refine lv_iconst (v := 5) hx hb dL_waits_250 (by decide) ?_
                      refine kL_16 X hJ (mX6_ofCart l E B ((sL_hangs gg).2) v4 5 (Gn_sL_hangs (hgn))) rfl (by omega) at_X hl.1 ⟨Nat.le_of_ble_eq_true rfl, Nat.le_of_ble_eq_true rfl⟩ ⟨Nat.le_refl _, Nat.le_refl _⟩ (rest := []) rfl (Nat.le_of_ble_eq_true rfl) dL_waits_251 (fun H locs hJ => ?_)
                      refine lv_iload hx hb dL_waits_254 (lv_at hl 10 rfl) ?_
                      refine lv_icmp_ne (tgt := 306) hx hb dL_waits_256 (by decide) (fun c_256 => ?_) (fun c_256 => ?_)
                      · skip
                        have hs : sL_waits g a1 a2 = bL_waits_306 ((sL_hangs gg).2) v10 := hs.trans (by rw [bL_waits_142, if_pos c_145, if_pos c_185, if_pos c_193, if_pos c_203, if_neg c_210, if_neg c_228, if_pos c_244, if_neg c_256])
                        exact bk_306 ((sL_hangs gg).2) v10 (Gn_sL_hangs (hgn)) _ _ _ hJ (lv_sub hl [1, 9] rfl) hs
                      · skip
                        refine lv_goto (tgt := 302) hx hb dL_waits_259 (by decide) ?_
                        have hs : sL_waits g a1 a2 = bL_waits_302 ((sL_hangs gg).2) v10 := hs.trans (by rw [bL_waits_142, if_pos c_145, if_pos c_185, if_pos c_193, if_pos c_203, if_neg c_210, if_neg c_228, if_pos c_244, if_pos c_256])
                        exact bk_302 ((sL_hangs gg).2) v10 (Gn_sL_hangs (hgn)) _ _ _ hJ (lv_sub hl [1, 9] rfl) hs
                  · skip
                    refine lv_iload hx hb dL_waits_231 (lv_at hl 5 rfl) ?_
                    refine lv_iconst (v := (-1)) hx hb dL_waits_233 (by decide) ?_
                    refine lv_icmp_ne (tgt := 306) hx hb dL_waits_234 (by decide) (fun c_234 => ?_) (fun c_234 => ?_)
                    · skip
                      have hs : sL_waits g a1 a2 = bL_waits_306 ((sL_hangs gg).2) v10 := hs.trans (by rw [bL_waits_142, if_pos c_145, if_pos c_185, if_pos c_193, if_pos c_203, if_neg c_210, if_pos c_228, if_neg c_234])
                      exact bk_306 ((sL_hangs gg).2) v10 (Gn_sL_hangs (hgn)) _ _ _ hJ (lv_sub hl [1, 9] rfl) hs
                    · skip
                      refine lv_goto (tgt := 302) hx hb dL_waits_237 (by decide) ?_
                      have hs : sL_waits g a1 a2 = bL_waits_302 ((sL_hangs gg).2) v10 := hs.trans (by rw [bL_waits_142, if_pos c_145, if_pos c_185, if_pos c_193, if_pos c_203, if_neg c_210, if_pos c_228, if_pos c_234])
                      exact bk_302 ((sL_hangs gg).2) v10 (Gn_sL_hangs (hgn)) _ _ _ hJ (lv_sub hl [1, 9] rfl) hs
      · skip
        have hp2_142 : v15 < nn v3 := nlt_cnt c_145 (by have := nn_b (c := v3); omega)
        refine lv_iload hx hb dL_waits_148 (lv_at hl 10 rfl) ?_
        refine lv_aload_n hx hb dL_waits_150 rfl (lv_at hl 0 rfl) ?_
        refine lv_iload hx hb dL_waits_151 (lv_at hl 12 rfl) ?_
        refine lv_bipush (v := 6) hx hb dL_waits_153 (by decide) ?_
        refine kL_16 X hJ (mX6_ofCart l E B gg (nI v15) 6 (hgn)) rfl (by omega) at_X hl.1 ⟨Nat.le_of_ble_eq_true rfl, Nat.le_of_ble_eq_true rfl⟩ ⟨Nat.le_refl _, Nat.le_refl _⟩ (rest := [.int v13]) rfl (Nat.le_of_ble_eq_true rfl) dL_waits_155 (fun H locs hJ => ?_)
        refine lv_isub hx hb dL_waits_158 ?_
        refine lv_istore (lv' := [(13, .int (v13 - (sX6_ofCart gg (nI v15) 6))), (0, .ref (B + 0)), (1, .int v1), (3, .int v3), (4, .int v4), (5, .int v5), (7, .int v7), (8, .int v8), (9, .int v9), (10, .long v10), (12, .int v12), (14, .int v14), (15, .int (nI v15))]) hx hb dL_waits_159 hl (by decide) rfl (fun ls hl => ?_)
        refine lv_iload hx hb dL_waits_161 (lv_at hl 11 rfl) ?_
        refine lv_aload_n hx hb dL_waits_163 rfl (lv_at hl 1 rfl) ?_
        refine lv_iload hx hb dL_waits_164 (lv_at hl 12 rfl) ?_
        refine lv_bipush (v := 7) hx hb dL_waits_166 (by decide) ?_
        refine kL_16 X hJ (mX6_ofCart l E B gg (nI v15) 7 (hgn)) rfl (by omega) at_X hl.1 ⟨Nat.le_of_ble_eq_true rfl, Nat.le_of_ble_eq_true rfl⟩ ⟨Nat.le_refl _, Nat.le_refl _⟩ (rest := [.int v14]) rfl (Nat.le_of_ble_eq_true rfl) dL_waits_168 (fun H locs hJ => ?_)
        refine lv_isub hx hb dL_waits_171 ?_
        refine lv_istore (lv' := [(14, .int (v14 - (sX6_ofCart gg (nI v15) 7))), (13, .int (v13 - (sX6_ofCart gg (nI v15) 6))), (0, .ref (B + 0)), (1, .int v1), (3, .int v3), (4, .int v4), (5, .int v5), (7, .int v7), (8, .int v8), (9, .int v9), (10, .long v10), (12, .int v12), (15, .int (nI v15))]) hx hb dL_waits_172 hl (by decide) rfl (fun ls hl => ?_)
        refine lv_iinc (v := nI (v15 + 1)) (lv' := [(15, .int (nI (v15 + 1))), (14, .int (v14 - (sX6_ofCart gg (nI v15) 7))), (13, .int (v13 - (sX6_ofCart gg (nI v15) 6))), (0, .ref (B + 0)), (1, .int v1), (3, .int v3), (4, .int v4), (5, .int v5), (7, .int v7), (8, .int v8), (9, .int v9), (10, .long v10), (12, .int v12)]) hx hb dL_waits_174 hl (k := 12) rfl (by first | exact nI_add _ _ | rfl) (by decide) rfl (fun ls hl => ?_)
        refine lv_goto (tgt := 142) hx hb dL_waits_177 (by decide) ?_
        have hs : sL_waits g a1 a2 = bL_waits_142 n_142 gg v1 v3 v4 v5 v7 v8 v9 v10 v12 (v13 - (sX6_ofCart gg (nI v15) 6)) (v14 - (sX6_ofCart gg (nI v15) 7)) (v15 + 1) := hs.trans (by rw [bL_waits_142, if_neg c_145])
        exact ih_142 gg v1 v3 v4 v5 v7 v8 v9 v10 v12 (v13 - (sX6_ofCart gg (nI v15) 6)) (v14 - (sX6_ofCart gg (nI v15) 7)) (v15 + 1) (by omega) (hgn) (by omega) _ _ _ hJ (lv_sub hl [3, 4, 5, 6, 7, 8, 9, 10, 11, 12, 2, 1, 0] rfl) hs
  have bk_89 : ∀ (n : Nat) (gg : GS) (v1 : Int32) (v3 : Int32) (v4 : Int32) (v5 : Int32) (v6 : Int32) (v7 : Int32) (v8 : Int32) (v9 : Int32) (v10 : Int64) (v12 : Int32) (v13 : Int32) (v14 : Int32) (v15 : Nat), nn v3 - v15 < n → (Gn gg) → (v15 ≤ nn v3) → ∀ (H : Heap) (locs : List Loc) (ls : Array Slot), JG E B s_ gg H locs → lv_has ls 16 [(0, .ref (B + 0)), (1, .int v1), (3, .int v3), (4, .int v4), (5, .int v5), (6, .int v6), (7, .int v7), (8, .int v8), (9, .int v9), (10, .long v10), (12, .int v12), (13, .int v13), (14, .int v14), (15, .int (nI v15))] → sL_waits g a1 a2 = bL_waits_89 n gg v1 v3 v4 v5 v6 v7 v8 v9 v10 v12 v13 v14 v15 → W P_ l e_ (rmm 7 172 0 0) s_ m_ a_ below meth cd H locs 0 0 Q (F0 m_ 89 ls []) := by
    intro n
    induction n with
    | zero => intro gg v1 v3 v4 v5 v6 v7 v8 v9 v10 v12 v13 v14 v15 hm; exact absurd hm (Nat.not_lt_zero _)
    | succ n_89 ih_89 =>
      intro gg v1 v3 v4 v5 v6 v7 v8 v9 v10 v12 v13 v14 v15 hm hgn hp_89 H locs ls hJ hl hs
      refine lv_iload hx hb dL_waits_89 (lv_at hl 13 rfl) ?_
      refine lv_iload_n hx hb dL_waits_91 rfl (lv_at hl 2 rfl) ?_
      refine lv_icmp_ge (tgt := 127) hx hb dL_waits_92 (by decide) (fun c_92 => ?_) (fun c_92 => ?_)
      · skip
        refine lv_aload_n hx hb dL_waits_127 rfl (lv_at hl 0 rfl) ?_
        refine lv_iload_n hx hb dL_waits_128 rfl (lv_at hl 1 rfl) ?_
        refine kL_57 X hJ (mX6_pass l E B gg v1 (hgn)) rfl (by omega) at_X hl.1 ⟨Nat.le_of_ble_eq_true rfl, Nat.le_of_ble_eq_true rfl⟩ ⟨Nat.le_refl _, Nat.le_refl _⟩ (rest := []) rfl (Nat.le_of_ble_eq_true rfl) dL_waits_129 (fun H locs hJ => ?_)
        refine lv_iload hx hb dL_waits_132 (lv_at hl 5 rfl) ?_
        refine lv_icmp_eq (tgt := 139) hx hb dL_waits_134 (by decide) (fun c_134 => ?_) (fun c_134 => ?_)
        · skip
          refine lv_iconst (v := 0) hx hb dL_waits_139 (by decide) ?_
          refine lv_istore (lv' := [(15, .int 0), (0, .ref (B + 0)), (1, .int v1), (3, .int v3), (4, .int v4), (5, .int v5), (6, .int v6), (7, .int v7), (8, .int v8), (9, .int v9), (10, .long v10), (12, .int v12), (13, .int v13), (14, .int v14)]) hx hb dL_waits_140 hl (by decide) rfl (fun ls hl => ?_)
          have hs : sL_waits g a1 a2 = bL_waits_142 (nn v3 + 1) ((sX6_pass gg v1).2) v1 v3 v4 v5 v7 v8 v9 v10 v12 v13 v14 0 := hs.trans (by rw [bL_waits_89, if_pos c_92, if_pos c_134])
          exact bk_142 (nn v3 + 1) ((sX6_pass gg v1).2) v1 v3 v4 v5 v7 v8 v9 v10 v12 v13 v14 0 (by omega) (Gn_sX6_pass (hgn)) (by omega) _ _ _ hJ (lv_sub hl [1, 2, 3, 4, 5, 7, 8, 9, 10, 11, 12, 13, 0] rfl) hs
        · skip
          refine lv_iconst (v := 0) hx hb dL_waits_137 (by decide) ?_
          have hs : sL_waits g a1 a2 = (0, (sX6_pass gg v1).2) := hs.trans (by rw [bL_waits_89, if_pos c_92, if_neg c_134])
          exact fin (by rw [hs]; dsimp only; exact hJ) (by rw [hs]) dL_waits_138
      · skip
        have hp2_89 : v15 < nn v3 := nlt_cnt c_92 (by have := nn_b (c := v3); omega)
        refine lv_iload hx hb dL_waits_95 (lv_at hl 11 rfl) ?_
        refine lv_aload_n hx hb dL_waits_97 rfl (lv_at hl 0 rfl) ?_
        refine lv_iload hx hb dL_waits_98 (lv_at hl 13 rfl) ?_
        refine lv_bipush (v := 6) hx hb dL_waits_100 (by decide) ?_
        refine kL_16 X hJ (mX6_ofCart l E B gg (nI v15) 6 (hgn)) rfl (by omega) at_X hl.1 ⟨Nat.le_of_ble_eq_true rfl, Nat.le_of_ble_eq_true rfl⟩ ⟨Nat.le_refl _, Nat.le_refl _⟩ (rest := [.int v13]) rfl (Nat.le_of_ble_eq_true rfl) dL_waits_102 (fun H locs hJ => ?_)
        refine lv_iadd hx hb dL_waits_105 ?_
        refine lv_istore (lv' := [(13, .int (v13 + (sX6_ofCart gg (nI v15) 6))), (0, .ref (B + 0)), (1, .int v1), (3, .int v3), (4, .int v4), (5, .int v5), (6, .int v6), (7, .int v7), (8, .int v8), (9, .int v9), (10, .long v10), (12, .int v12), (14, .int v14), (15, .int (nI v15))]) hx hb dL_waits_106 hl (by decide) rfl (fun ls hl => ?_)
        refine lv_iload hx hb dL_waits_108 (lv_at hl 12 rfl) ?_
        refine lv_aload_n hx hb dL_waits_110 rfl (lv_at hl 1 rfl) ?_
        refine lv_iload hx hb dL_waits_111 (lv_at hl 13 rfl) ?_
        refine lv_bipush (v := 7) hx hb dL_waits_113 (by decide) ?_
        refine kL_16 X hJ (mX6_ofCart l E B gg (nI v15) 7 (hgn)) rfl (by omega) at_X hl.1 ⟨Nat.le_of_ble_eq_true rfl, Nat.le_of_ble_eq_true rfl⟩ ⟨Nat.le_refl _, Nat.le_refl _⟩ (rest := [.int v14]) rfl (Nat.le_of_ble_eq_true rfl) dL_waits_115 (fun H locs hJ => ?_)
        refine lv_iadd hx hb dL_waits_118 ?_
        refine lv_istore (lv' := [(14, .int (v14 + (sX6_ofCart gg (nI v15) 7))), (13, .int (v13 + (sX6_ofCart gg (nI v15) 6))), (0, .ref (B + 0)), (1, .int v1), (3, .int v3), (4, .int v4), (5, .int v5), (6, .int v6), (7, .int v7), (8, .int v8), (9, .int v9), (10, .long v10), (12, .int v12), (15, .int (nI v15))]) hx hb dL_waits_119 hl (by decide) rfl (fun ls hl => ?_)
        refine lv_iinc (v := nI (v15 + 1)) (lv' := [(15, .int (nI (v15 + 1))), (14, .int (v14 + (sX6_ofCart gg (nI v15) 7))), (13, .int (v13 + (sX6_ofCart gg (nI v15) 6))), (0, .ref (B + 0)), (1, .int v1), (3, .int v3), (4, .int v4), (5, .int v5), (6, .int v6), (7, .int v7), (8, .int v8), (9, .int v9), (10, .long v10), (12, .int v12)]) hx hb dL_waits_121 hl (k := 13) rfl (by first | exact nI_add _ _ | rfl) (by decide) rfl (fun ls hl => ?_)
        refine lv_goto (tgt := 89) hx hb dL_waits_124 (by decide) ?_
        have hs : sL_waits g a1 a2 = bL_waits_89 n_89 gg v1 v3 v4 v5 v6 v7 v8 v9 v10 v12 (v13 + (sX6_ofCart gg (nI v15) 6)) (v14 + (sX6_ofCart gg (nI v15) 7)) (v15 + 1) := hs.trans (by rw [bL_waits_89, if_neg c_92])
        exact ih_89 gg v1 v3 v4 v5 v6 v7 v8 v9 v10 v12 (v13 + (sX6_ofCart gg (nI v15) 6)) (v14 + (sX6_ofCart gg (nI v15) 7)) (v15 + 1) (by omega) (hgn) (by omega) _ _ _ hJ (lv_sub hl [3, 4, 5, 6, 7, 8, 9, 10, 11, 12, 13, 2, 1, 0] rfl) hs
  have bk_80 : ∀ (gg : GS) (v1 : Int32) (v3 : Int32) (v4 : Int32) (v5 : Int32) (v6 : Int32) (v7 : Int32) (v8 : Int32) (v9 : Int32) (v10 : Int64) (v12 : Int32), (Gn gg) → ∀ (H : Heap) (locs : List Loc) (ls : Array Slot), JG E B s_ gg H locs → lv_has ls 16 [(0, .ref (B + 0)), (1, .int v1), (3, .int v3), (4, .int v4), (5, .int v5), (6, .int v6), (7, .int v7), (8, .int v8), (9, .int v9), (10, .long v10), (12, .int v12)] → sL_waits g a1 a2 = bL_waits_80 gg v1 v3 v4 v5 v6 v7 v8 v9 v10 v12 → W P_ l e_ (rmm 7 172 0 0) s_ m_ a_ below meth cd H locs 0 0 Q (F0 m_ 80 ls []) := by
    intro gg v1 v3 v4 v5 v6 v7 v8 v9 v10 v12 hgn H locs ls hJ hl hs
    refine lv_iconst (v := 0) hx hb dL_waits_80 (by decide) ?_
    refine lv_istore (lv' := [(13, .int 0), (0, .ref (B + 0)), (1, .int v1), (3, .int v3), (4, .int v4), (5, .int v5), (6, .int v6), (7, .int v7), (8, .int v8), (9, .int v9), (10, .long v10), (12, .int v12)]) hx hb dL_waits_81 hl (by decide) rfl (fun ls hl => ?_)
    refine lv_iconst (v := 0) hx hb dL_waits_83 (by decide) ?_
    refine lv_istore (lv' := [(14, .int 0), (13, .int 0), (0, .ref (B + 0)), (1, .int v1), (3, .int v3), (4, .int v4), (5, .int v5), (6, .int v6), (7, .int v7), (8, .int v8), (9, .int v9), (10, .long v10), (12, .int v12)]) hx hb dL_waits_84 hl (by decide) rfl (fun ls hl => ?_)
    refine lv_iconst (v := 0) hx hb dL_waits_86 (by decide) ?_
    refine lv_istore (lv' := [(15, .int 0), (14, .int 0), (13, .int 0), (0, .ref (B + 0)), (1, .int v1), (3, .int v3), (4, .int v4), (5, .int v5), (6, .int v6), (7, .int v7), (8, .int v8), (9, .int v9), (10, .long v10), (12, .int v12)]) hx hb dL_waits_87 hl (by decide) rfl (fun ls hl => ?_)
    have hs : sL_waits g a1 a2 = bL_waits_89 (nn v3 + 1) gg v1 v3 v4 v5 v6 v7 v8 v9 v10 v12 0 0 0 := hs.trans (by unfold bL_waits_80; rfl)
    exact bk_89 (nn v3 + 1) gg v1 v3 v4 v5 v6 v7 v8 v9 v10 v12 0 0 0 (by omega) (hgn) (by omega) _ _ _ hJ (lv_sub hl [3, 4, 5, 6, 7, 8, 9, 10, 11, 12, 13, 2, 1, 0] rfl) hs
  have bk_61 : ∀ (gg : GS) (v1 : Int32) (v3 : Int32) (v4 : Int32) (v5 : Int32) (v6 : Int32) (v7 : Int32) (v8 : Int32) (v9 : Int32) (v10 : Int64), (Gn gg) → ∀ (H : Heap) (locs : List Loc) (ls : Array Slot), JG E B s_ gg H locs → lv_has ls 16 [(0, .ref (B + 0)), (1, .int v1), (3, .int v3), (4, .int v4), (5, .int v5), (6, .int v6), (7, .int v7), (8, .int v8), (9, .int v9), (10, .long v10)] → sL_waits g a1 a2 = bL_waits_61 gg v1 v3 v4 v5 v6 v7 v8 v9 v10 → W P_ l e_ (rmm 7 172 0 0) s_ m_ a_ below meth cd H locs 0 0 Q (F0 m_ 61 ls []) := by
    intro gg v1 v3 v4 v5 v6 v7 v8 v9 v10 hgn H locs ls hJ hl hs
    refine lv_iload hx hb dL_waits_61 (lv_at hl 3 rfl) ?_
    refine lv_iload_n hx hb dL_waits_63 rfl (lv_at hl 2 rfl) ?_
    refine lv_icmp_ge (tgt := 77) hx hb dL_waits_64 (by decide) (fun c_64 => ?_) (fun c_64 => ?_)
    · skip
      refine lv_iconst (v := 0) hx hb dL_waits_77 (by decide) ?_
      refine lv_istore (lv' := [(12, .int 0), (0, .ref (B + 0)), (1, .int v1), (3, .int v3), (4, .int v4), (5, .int v5), (6, .int v6), (7, .int v7), (8, .int v8), (9, .int v9), (10, .long v10)]) hx hb dL_waits_78 hl (by decide) rfl (fun ls hl => ?_)
      have hs : sL_waits g a1 a2 = bL_waits_80 gg v1 v3 v4 v5 v6 v7 v8 v9 v10 0 := hs.trans (by unfold bL_waits_61; rw [if_pos c_64])
      exact bk_80 gg v1 v3 v4 v5 v6 v7 v8 v9 v10 0 (hgn) _ _ _ hJ (lv_sub hl [1, 2, 3, 4, 5, 6, 7, 8, 9, 10, 0] rfl) hs
    · skip
      refine lv_aload_n hx hb dL_waits_67 rfl (lv_at hl 0 rfl) ?_
      refine lv_iload hx hb dL_waits_68 (lv_at hl 3 rfl) ?_
      refine lv_iconst (v := 5) hx hb dL_waits_70 (by decide) ?_
      refine kL_16 X hJ (mX6_ofCart l E B gg v4 5 (hgn)) rfl (by omega) at_X hl.1 ⟨Nat.le_of_ble_eq_true rfl, Nat.le_of_ble_eq_true rfl⟩ ⟨Nat.le_refl _, Nat.le_refl _⟩ (rest := []) rfl (Nat.le_of_ble_eq_true rfl) dL_waits_71 (fun H locs hJ => ?_)
      refine lv_goto (tgt := 78) hx hb dL_waits_74 (by decide) ?_
      refine lv_istore (lv' := [(12, .int (sX6_ofCart gg v4 5)), (0, .ref (B + 0)), (1, .int v1), (3, .int v3), (4, .int v4), (5, .int v5), (6, .int v6), (7, .int v7), (8, .int v8), (9, .int v9), (10, .long v10)]) hx hb dL_waits_78 hl (by decide) rfl (fun ls hl => ?_)
      have hs : sL_waits g a1 a2 = bL_waits_80 gg v1 v3 v4 v5 v6 v7 v8 v9 v10 (sX6_ofCart gg v4 5) := hs.trans (by unfold bL_waits_61; rw [if_neg c_64])
      exact bk_80 gg v1 v3 v4 v5 v6 v7 v8 v9 v10 (sX6_ofCart gg v4 5) (hgn) _ _ _ hJ (lv_sub hl [1, 2, 3, 4, 5, 6, 7, 8, 9, 10, 0] rfl) hs
  refine lv_aload_n hx hb dL_waits_0 rfl (lv_at hl 0 rfl) ?_
  refine lv_iconst (v := 2) hx hb dL_waits_1 (by decide) ?_
  refine kL_10 X hJ (mX6_count l E B g 2 (hgn)) rfl (by omega) at_X hl.1 ⟨Nat.le_of_ble_eq_true rfl, Nat.le_of_ble_eq_true rfl⟩ ⟨Nat.le_refl _, Nat.le_refl _⟩ (rest := []) rfl (Nat.le_of_ble_eq_true rfl) dL_waits_2 (fun H locs hJ => ?_)
  refine lv_istore_n (lv' := [(3, .int (sX6_count g 2)), (0, .ref (B + 0)), (1, .int a1), (2, .int a2)]) hx hb dL_waits_5 rfl hl (by decide) rfl (fun ls hl => ?_)
  refine lv_iload_n hx hb dL_waits_6 rfl (lv_at hl 3 rfl) ?_
  refine lv_iload_n hx hb dL_waits_7 rfl (lv_at hl 0 rfl) ?_
  refine lv_iconst (v := 1) hx hb dL_waits_8 (by decide) ?_
  refine lv_iadd hx hb dL_waits_9 ?_
  refine kL_45 X hJ (mL_low l E B _ a2 ((sX6_count g 2) + 1) (cnt1 hgn)) rfl hl.1 ⟨Nat.le_of_ble_eq_true rfl, Nat.le_of_ble_eq_true rfl⟩ ⟨Nat.le_refl _, Nat.le_refl _⟩ (rest := []) rfl (Nat.le_of_ble_eq_true rfl) dL_waits_10 (fun H locs hJ => ?_)
  refine lv_istore (lv' := [(4, .int (sL_low a2 ((sX6_count g 2) + 1))), (3, .int (sX6_count g 2)), (0, .ref (B + 0)), (1, .int a1), (2, .int a2)]) hx hb dL_waits_13 hl (by decide) rfl (fun ls hl => ?_)
  refine lv_aload_n hx hb dL_waits_15 rfl (lv_at hl 2 rfl) ?_
  refine lv_iload hx hb dL_waits_16 (lv_at hl 0 rfl) ?_
  refine kL_23 X hJ (mX6_overIn l E B g (sL_low a2 ((sX6_count g 2) + 1)) (hgn)) rfl (by omega) at_X hl.1 ⟨Nat.le_of_ble_eq_true rfl, Nat.le_of_ble_eq_true rfl⟩ ⟨Nat.le_refl _, Nat.le_refl _⟩ (rest := []) rfl (Nat.le_of_ble_eq_true rfl) dL_waits_18 (fun H locs hJ => ?_)
  refine lv_istore (lv' := [(5, .int ((sX6_overIn g (sL_low a2 ((sX6_count g 2) + 1))).1)), (4, .int (sL_low a2 ((sX6_count g 2) + 1))), (3, .int (sX6_count g 2)), (0, .ref (B + 0)), (1, .int a1), (2, .int a2)]) hx hb dL_waits_21 hl (by decide) rfl (fun ls hl => ?_)
  refine lv_aload_n hx hb dL_waits_23 rfl (lv_at hl 3 rfl) ?_
  refine lv_iload_n hx hb dL_waits_24 rfl (lv_at hl 4 rfl) ?_
  refine lv_iconst (v := 0) hx hb dL_waits_25 (by decide) ?_
  refine kL_50 X hJ (mX6_would l E B ((sX6_overIn g (sL_low a2 ((sX6_count g 2) + 1))).2) a1 0 (Gn_sX6_overIn (hgn))) rfl (by omega) at_X hl.1 ⟨Nat.le_of_ble_eq_true rfl, Nat.le_of_ble_eq_true rfl⟩ ⟨Nat.le_refl _, Nat.le_refl _⟩ (rest := []) rfl (Nat.le_of_ble_eq_true rfl) dL_waits_26 (fun H locs hJ => ?_)
  refine lv_istore (lv' := [(6, .int ((sX6_would ((sX6_overIn g (sL_low a2 ((sX6_count g 2) + 1))).2) a1 0).1)), (5, .int ((sX6_overIn g (sL_low a2 ((sX6_count g 2) + 1))).1)), (4, .int (sL_low a2 ((sX6_count g 2) + 1))), (3, .int (sX6_count g 2)), (0, .ref (B + 0)), (1, .int a1), (2, .int a2)]) hx hb dL_waits_29 hl (by decide) rfl (fun ls hl => ?_)
  refine lv_aload_n hx hb dL_waits_31 rfl (lv_at hl 4 rfl) ?_
  refine lv_iload_n hx hb dL_waits_32 rfl (lv_at hl 5 rfl) ?_
  refine lv_iconst (v := 1) hx hb dL_waits_33 (by decide) ?_
  refine kL_50 X hJ (mX6_would l E B ((sX6_would ((sX6_overIn g (sL_low a2 ((sX6_count g 2) + 1))).2) a1 0).2) a1 1 (Gn_sX6_would (Gn_sX6_overIn (hgn)))) rfl (by omega) at_X hl.1 ⟨Nat.le_of_ble_eq_true rfl, Nat.le_of_ble_eq_true rfl⟩ ⟨Nat.le_refl _, Nat.le_refl _⟩ (rest := []) rfl (Nat.le_of_ble_eq_true rfl) dL_waits_34 (fun H locs hJ => ?_)
  refine lv_istore (lv' := [(7, .int ((sX6_would ((sX6_would ((sX6_overIn g (sL_low a2 ((sX6_count g 2) + 1))).2) a1 0).2) a1 1).1)), (6, .int ((sX6_would ((sX6_overIn g (sL_low a2 ((sX6_count g 2) + 1))).2) a1 0).1)), (5, .int ((sX6_overIn g (sL_low a2 ((sX6_count g 2) + 1))).1)), (4, .int (sL_low a2 ((sX6_count g 2) + 1))), (3, .int (sX6_count g 2)), (0, .ref (B + 0)), (1, .int a1), (2, .int a2)]) hx hb dL_waits_37 hl (by decide) rfl (fun ls hl => ?_)
  refine lv_aload_n hx hb dL_waits_39 rfl (lv_at hl 5 rfl) ?_
  refine lv_iload_n hx hb dL_waits_40 rfl (lv_at hl 6 rfl) ?_
  refine lv_iconst (v := 2) hx hb dL_waits_41 (by decide) ?_
  refine kL_50 X hJ (mX6_would l E B ((sX6_would ((sX6_would ((sX6_overIn g (sL_low a2 ((sX6_count g 2) + 1))).2) a1 0).2) a1 1).2) a1 2 (Gn_sX6_would (Gn_sX6_would (Gn_sX6_overIn (hgn))))) rfl (by omega) at_X hl.1 ⟨Nat.le_of_ble_eq_true rfl, Nat.le_of_ble_eq_true rfl⟩ ⟨Nat.le_refl _, Nat.le_refl _⟩ (rest := []) rfl (Nat.le_of_ble_eq_true rfl) dL_waits_42 (fun H locs hJ => ?_)
  refine lv_istore (lv' := [(8, .int ((sX6_would ((sX6_would ((sX6_would ((sX6_overIn g (sL_low a2 ((sX6_count g 2) + 1))).2) a1 0).2) a1 1).2) a1 2).1)), (7, .int ((sX6_would ((sX6_would ((sX6_overIn g (sL_low a2 ((sX6_count g 2) + 1))).2) a1 0).2) a1 1).1)), (6, .int ((sX6_would ((sX6_overIn g (sL_low a2 ((sX6_count g 2) + 1))).2) a1 0).1)), (5, .int ((sX6_overIn g (sL_low a2 ((sX6_count g 2) + 1))).1)), (4, .int (sL_low a2 ((sX6_count g 2) + 1))), (3, .int (sX6_count g 2)), (0, .ref (B + 0)), (1, .int a1), (2, .int a2)]) hx hb dL_waits_45 hl (by decide) rfl (fun ls hl => ?_)
  refine lv_aload_n hx hb dL_waits_47 rfl (lv_at hl 6 rfl) ?_
  refine lv_iload_n hx hb dL_waits_48 rfl (lv_at hl 7 rfl) ?_
  refine lv_iconst (v := 3) hx hb dL_waits_49 (by decide) ?_
  refine kL_50 X hJ (mX6_would l E B ((sX6_would ((sX6_would ((sX6_would ((sX6_overIn g (sL_low a2 ((sX6_count g 2) + 1))).2) a1 0).2) a1 1).2) a1 2).2) a1 3 (Gn_sX6_would (Gn_sX6_would (Gn_sX6_would (Gn_sX6_overIn (hgn)))))) rfl (by omega) at_X hl.1 ⟨Nat.le_of_ble_eq_true rfl, Nat.le_of_ble_eq_true rfl⟩ ⟨Nat.le_refl _, Nat.le_refl _⟩ (rest := []) rfl (Nat.le_of_ble_eq_true rfl) dL_waits_50 (fun H locs hJ => ?_)
  refine lv_istore (lv' := [(9, .int ((sX6_would ((sX6_would ((sX6_would ((sX6_would ((sX6_overIn g (sL_low a2 ((sX6_count g 2) + 1))).2) a1 0).2) a1 1).2) a1 2).2) a1 3).1)), (8, .int ((sX6_would ((sX6_would ((sX6_would ((sX6_overIn g (sL_low a2 ((sX6_count g 2) + 1))).2) a1 0).2) a1 1).2) a1 2).1)), (7, .int ((sX6_would ((sX6_would ((sX6_overIn g (sL_low a2 ((sX6_count g 2) + 1))).2) a1 0).2) a1 1).1)), (6, .int ((sX6_would ((sX6_overIn g (sL_low a2 ((sX6_count g 2) + 1))).2) a1 0).1)), (5, .int ((sX6_overIn g (sL_low a2 ((sX6_count g 2) + 1))).1)), (4, .int (sL_low a2 ((sX6_count g 2) + 1))), (3, .int (sX6_count g 2)), (0, .ref (B + 0)), (1, .int a1), (2, .int a2)]) hx hb dL_waits_53 hl (by decide) rfl (fun ls hl => ?_)
  refine lv_aload_n hx hb dL_waits_55 rfl (lv_at hl 7 rfl) ?_
  refine kL_53 X hJ (mL_print l E B ((sX6_would ((sX6_would ((sX6_would ((sX6_would ((sX6_overIn g (sL_low a2 ((sX6_count g 2) + 1))).2) a1 0).2) a1 1).2) a1 2).2) a1 3).2) (Gn_sX6_would (Gn_sX6_would (Gn_sX6_would (Gn_sX6_would (Gn_sX6_overIn (hgn))))))) rfl hl.1 ⟨Nat.le_of_ble_eq_true rfl, Nat.le_of_ble_eq_true rfl⟩ ⟨Nat.le_refl _, Nat.le_refl _⟩ (rest := []) rfl (Nat.le_of_ble_eq_true rfl) dL_waits_56 (fun H locs hJ => ?_)
  refine lv_lstore (lv' := [(10, .long (sL_print ((sX6_would ((sX6_would ((sX6_would ((sX6_would ((sX6_overIn g (sL_low a2 ((sX6_count g 2) + 1))).2) a1 0).2) a1 1).2) a1 2).2) a1 3).2))), (9, .int ((sX6_would ((sX6_would ((sX6_would ((sX6_would ((sX6_overIn g (sL_low a2 ((sX6_count g 2) + 1))).2) a1 0).2) a1 1).2) a1 2).2) a1 3).1)), (8, .int ((sX6_would ((sX6_would ((sX6_would ((sX6_overIn g (sL_low a2 ((sX6_count g 2) + 1))).2) a1 0).2) a1 1).2) a1 2).1)), (7, .int ((sX6_would ((sX6_would ((sX6_overIn g (sL_low a2 ((sX6_count g 2) + 1))).2) a1 0).2) a1 1).1)), (6, .int ((sX6_would ((sX6_overIn g (sL_low a2 ((sX6_count g 2) + 1))).2) a1 0).1)), (5, .int ((sX6_overIn g (sL_low a2 ((sX6_count g 2) + 1))).1)), (4, .int (sL_low a2 ((sX6_count g 2) + 1))), (3, .int (sX6_count g 2)), (0, .ref (B + 0)), (1, .int a1), (2, .int a2)]) hx hb dL_waits_59 hl (by decide) rfl (fun ls hl => ?_)
  have hs : sL_waits g a1 a2 = bL_waits_61 ((sX6_would ((sX6_would ((sX6_would ((sX6_would ((sX6_overIn g (sL_low a2 ((sX6_count g 2) + 1))).2) a1 0).2) a1 1).2) a1 2).2) a1 3).2) a1 (sX6_count g 2) (sL_low a2 ((sX6_count g 2) + 1)) ((sX6_overIn g (sL_low a2 ((sX6_count g 2) + 1))).1) ((sX6_would ((sX6_overIn g (sL_low a2 ((sX6_count g 2) + 1))).2) a1 0).1) ((sX6_would ((sX6_would ((sX6_overIn g (sL_low a2 ((sX6_count g 2) + 1))).2) a1 0).2) a1 1).1) ((sX6_would ((sX6_would ((sX6_would ((sX6_overIn g (sL_low a2 ((sX6_count g 2) + 1))).2) a1 0).2) a1 1).2) a1 2).1) ((sX6_would ((sX6_would ((sX6_would ((sX6_would ((sX6_overIn g (sL_low a2 ((sX6_count g 2) + 1))).2) a1 0).2) a1 1).2) a1 2).2) a1 3).1) (sL_print ((sX6_would ((sX6_would ((sX6_would ((sX6_would ((sX6_overIn g (sL_low a2 ((sX6_count g 2) + 1))).2) a1 0).2) a1 1).2) a1 2).2) a1 3).2)) := by unfold sL_waits; rfl
  exact bk_61 ((sX6_would ((sX6_would ((sX6_would ((sX6_would ((sX6_overIn g (sL_low a2 ((sX6_count g 2) + 1))).2) a1 0).2) a1 1).2) a1 2).2) a1 3).2) a1 (sX6_count g 2) (sL_low a2 ((sX6_count g 2) + 1)) ((sX6_overIn g (sL_low a2 ((sX6_count g 2) + 1))).1) ((sX6_would ((sX6_overIn g (sL_low a2 ((sX6_count g 2) + 1))).2) a1 0).1) ((sX6_would ((sX6_would ((sX6_overIn g (sL_low a2 ((sX6_count g 2) + 1))).2) a1 0).2) a1 1).1) ((sX6_would ((sX6_would ((sX6_would ((sX6_overIn g (sL_low a2 ((sX6_count g 2) + 1))).2) a1 0).2) a1 1).2) a1 2).1) ((sX6_would ((sX6_would ((sX6_would ((sX6_would ((sX6_overIn g (sL_low a2 ((sX6_count g 2) + 1))).2) a1 0).2) a1 1).2) a1 2).2) a1 3).1) (sL_print ((sX6_would ((sX6_would ((sX6_would ((sX6_would ((sX6_overIn g (sL_low a2 ((sX6_count g 2) + 1))).2) a1 0).2) a1 1).2) a1 2).2) a1 3).2)) (Gn_sX6_would (Gn_sX6_would (Gn_sX6_would (Gn_sX6_would (Gn_sX6_overIn (hgn)))))) _ _ _ hJ (lv_sub hl [8, 9, 7, 6, 5, 4, 3, 2, 1, 0] rfl) hs
