def bL_act_204 (gg : GS) (v2 : Int32) : Int32 × GS := ((sX6_pass gg ((1 : Int32) + (sL_low v2 5))).1, (sX6_pass gg ((1 : Int32) + (sL_low v2 5))).2)
def bL_act_196 (gg : GS) (v3 : Int32) (v4 : Int32) : Int32 × GS := ((sX6_hint gg v3 v4).1, (sX6_hint gg v3 v4).2)
def sL_act (g : GS) (a1 : Int32) (a2 : Int32) : Int32 × GS := if sL_low a1 14 = 0 then (if sL_low (a1 >>> (9 &&& 31)) 3 = 0 then (((sX6_bridge g (sL_low a2 4) (sL_low (a2 >>> (2 &&& 31)) 4) ((2 : Int32) + (sL_low (a2 >>> (4 &&& 31)) 999))).1, (sX6_bridge g (sL_low a2 4) (sL_low (a2 >>> (2 &&& 31)) 4) ((2 : Int32) + (sL_low (a2 >>> (4 &&& 31)) 999))).2)) else (((sX6_bridge g (sL_low a2 4) (sL_low (a2 >>> (2 &&& 31)) 4) ((2 : Int32) + (sL_low (a2 >>> (4 &&& 31)) 12))).1, (sX6_bridge g (sL_low a2 4) (sL_low (a2 >>> (2 &&& 31)) 4) ((2 : Int32) + (sL_low (a2 >>> (4 &&& 31)) 12))).2))) else if sL_low a1 14 = 1 then (if sL_low (a1 >>> (9 &&& 31)) 3 = 0 then (((sX6_cart g (sL_low a2 3) (sL_low (a2 >>> (2 &&& 31)) 10000)).1, (sX6_cart g (sL_low a2 3) (sL_low (a2 >>> (2 &&& 31)) 10000)).2)) else (((sX6_cart g (sL_low a2 3) (sL_low (a2 >>> (2 &&& 31)) 9)).1, (sX6_cart g (sL_low a2 3) (sL_low (a2 >>> (2 &&& 31)) 9)).2))) else if sL_low a1 14 = 2 then (if sL_low (a1 >>> (4 &&& 31)) 4 = 3 then (((sX6_set g (sL_low (a1 >>> (4 &&& 31)) 4) ((1 : Int32) + (sL_low a2 8))).1, (sX6_set g (sL_low (a1 >>> (4 &&& 31)) 4) ((1 : Int32) + (sL_low a2 8))).2)) else (((sX6_set g (sL_low (a1 >>> (4 &&& 31)) 4) (sL_low a2 7)).1, (sX6_set g (sL_low (a1 >>> (4 &&& 31)) 4) (sL_low a2 7)).2))) else if sL_low a1 14 = 3 then (((sX6_leave g (sL_low (a1 >>> (4 &&& 31)) 4)).1, (sX6_leave g (sL_low (a1 >>> (4 &&& 31)) 4)).2)) else if sL_low a1 14 = 4 then (bL_act_196 g (sL_low (a1 >>> (4 &&& 31)) 4) (sL_low (a1 >>> (7 &&& 31)) 3)) else if sL_low a1 14 = 5 then (bL_act_196 g (sL_low (a1 >>> (4 &&& 31)) 4) (sL_low (a1 >>> (7 &&& 31)) 3)) else if sL_low a1 14 = 6 then (bL_act_204 g a2) else if sL_low a1 14 = 7 then (bL_act_204 g a2) else (((sX6_guess g (sL_low (a1 >>> (4 &&& 31)) 4) (sL_low (a1 >>> (7 &&& 31)) 3) (sL_low a2 10)).1, (sX6_guess g (sL_low (a1 >>> (4 &&& 31)) 4) (sL_low (a1 >>> (7 &&& 31)) 3) (sL_low a2 10)).2))
theorem Gn_bL_act_204 {gg : GS} {v2 : Int32} (h : Gn gg) : Gn (bL_act_204 gg v2).2 := by
  unfold bL_act_204
  exact Gn_p2 (Gn_sX6_pass (h))
theorem Gn_bL_act_196 {gg : GS} {v3 : Int32} {v4 : Int32} (h : Gn gg) : Gn (bL_act_196 gg v3 v4).2 := by
  unfold bL_act_196
  exact Gn_p2 (Gn_sX6_hint (h))
theorem Gn_sL_act {g : GS} {a1 : Int32} {a2 : Int32} (h : Gn g) : Gn (sL_act g a1 a2).2 := by
  unfold sL_act
  exact Gn_i2 (Gn_i2 (Gn_p2 (Gn_sX6_bridge (h))) (Gn_p2 (Gn_sX6_bridge (h)))) (Gn_i2 (Gn_i2 (Gn_p2 (Gn_sX6_cart (h))) (Gn_p2 (Gn_sX6_cart (h)))) (Gn_i2 (Gn_i2 (Gn_p2 (Gn_sX6_set (h))) (Gn_p2 (Gn_sX6_set (h)))) (Gn_i2 (Gn_p2 (Gn_sX6_leave (h))) (Gn_i2 (Gn_bL_act_196 (h)) (Gn_i2 (Gn_bL_act_196 (h)) (Gn_i2 (Gn_bL_act_204 (h)) (Gn_i2 (Gn_bL_act_204 (h)) (Gn_p2 (Gn_sX6_guess (h))))))))))
set_option maxHeartbeats 4000000 in
set_option maxRecDepth 100000 in
theorem mL_act (l : Launch) (E : EE) (B : Nat) (g : GS) (a1 : Int32) (a2 : Int32) (hgn : Gn g) : CG l yL_act cL_act 6 (some .int) 7 159 E B [.ref (B + 0), .int a1, .int a2] g (some (.int (sL_act g a1 a2).1)) ((sL_act g a1 a2).2) := by
  refine mkI (own := RL) (ty := .int) rfl (by decide) rfl (rfl) (Nat.le_of_ble_eq_true rfl) (fun P_ e_ s_ m_ a_ below meth cd Q X fin ls hl hJ => ?_)
  have hx := X.1
  have hb := X.2.1
  have hl : lv_has ls 6 [(0, .ref (B + 0)), (1, .int a1), (2, .int a2)] := hl
  have bk_204 : ∀ (gg : GS) (v2 : Int32), (Gn gg) → ∀ (H : Heap) (locs : List Loc) (ls : Array Slot), JG E B s_ gg H locs → lv_has ls 6 [(0, .ref (B + 0)), (2, .int v2)] → sL_act g a1 a2 = bL_act_204 gg v2 → W P_ l e_ (rmm 7 159 0 0) s_ m_ a_ below meth cd H locs 0 0 Q (F0 m_ 204 ls []) := by
    intro gg v2 hgn H locs ls hJ hl hs
    refine lv_aload_n hx hb dL_act_204 rfl (lv_at hl 0 rfl) ?_
    refine lv_iconst (v := 1) hx hb dL_act_205 (by decide) ?_
    refine lv_iload_n hx hb dL_act_206 rfl (lv_at hl 1 rfl) ?_
    refine lv_iconst (v := 5) hx hb dL_act_207 (by decide) ?_
    refine kL_45 X hJ (mL_low l E B _ v2 5 (by decide)) rfl hl.1 ⟨Nat.le_of_ble_eq_true rfl, Nat.le_of_ble_eq_true rfl⟩ ⟨Nat.le_refl _, Nat.le_refl _⟩ (rest := [.int 1, .ref (B + 0)]) rfl (Nat.le_of_ble_eq_true rfl) dL_act_208 (fun H locs hJ => ?_)
    refine lv_iadd hx hb dL_act_211 ?_
    refine kL_57 X hJ (mX6_pass l E B gg ((1 : Int32) + (sL_low v2 5)) (hgn)) rfl (by omega) at_X hl.1 ⟨Nat.le_of_ble_eq_true rfl, Nat.le_of_ble_eq_true rfl⟩ ⟨Nat.le_refl _, Nat.le_refl _⟩ (rest := []) rfl (Nat.le_of_ble_eq_true rfl) dL_act_212 (fun H locs hJ => ?_)
    have hs : sL_act g a1 a2 = ((sX6_pass gg ((1 : Int32) + (sL_low v2 5))).1, (sX6_pass gg ((1 : Int32) + (sL_low v2 5))).2) := hs.trans (by unfold bL_act_204; rfl)
    exact fin (by rw [hs]; dsimp only; exact hJ) (by rw [hs]) dL_act_215
  have bk_196 : ∀ (gg : GS) (v3 : Int32) (v4 : Int32), (Gn gg) → ∀ (H : Heap) (locs : List Loc) (ls : Array Slot), JG E B s_ gg H locs → lv_has ls 6 [(0, .ref (B + 0)), (3, .int v3), (4, .int v4)] → sL_act g a1 a2 = bL_act_196 gg v3 v4 → W P_ l e_ (rmm 7 159 0 0) s_ m_ a_ below meth cd H locs 0 0 Q (F0 m_ 196 ls []) := by
    intro gg v3 v4 hgn H locs ls hJ hl hs
    refine lv_aload_n hx hb dL_act_196 rfl (lv_at hl 0 rfl) ?_
    refine lv_iload_n hx hb dL_act_197 rfl (lv_at hl 1 rfl) ?_
    refine lv_iload hx hb dL_act_198 (lv_at hl 2 rfl) ?_
    refine kL_96 X hJ (mX6_hint l E B gg v3 v4 (hgn)) rfl (by omega) at_X hl.1 ⟨Nat.le_of_ble_eq_true rfl, Nat.le_of_ble_eq_true rfl⟩ ⟨Nat.le_refl _, Nat.le_refl _⟩ (rest := []) rfl (Nat.le_of_ble_eq_true rfl) dL_act_200 (fun H locs hJ => ?_)
    have hs : sL_act g a1 a2 = ((sX6_hint gg v3 v4).1, (sX6_hint gg v3 v4).2) := hs.trans (by unfold bL_act_196; rfl)
    exact fin (by rw [hs]; dsimp only; exact hJ) (by rw [hs]) dL_act_203
  refine lv_iload_n hx hb dL_act_0 rfl (lv_at hl 1 rfl) ?_
  refine lv_iconst (v := 4) hx hb dL_act_1 (by decide) ?_
  refine lv_ishr hx hb dL_act_2 ?_
  refine lv_iconst (v := 4) hx hb dL_act_3 (by decide) ?_
  refine kL_45 X hJ (mL_low l E B _ (a1 >>> (4 &&& 31)) 4 (by decide)) rfl hl.1 ⟨Nat.le_of_ble_eq_true rfl, Nat.le_of_ble_eq_true rfl⟩ ⟨Nat.le_refl _, Nat.le_refl _⟩ (rest := []) rfl (Nat.le_of_ble_eq_true rfl) dL_act_4 (fun H locs hJ => ?_)
  refine lv_istore_n (lv' := [(3, .int (sL_low (a1 >>> (4 &&& 31)) 4)), (0, .ref (B + 0)), (1, .int a1), (2, .int a2)]) hx hb dL_act_7 rfl hl (by decide) rfl (fun ls hl => ?_)
  refine lv_iload_n hx hb dL_act_8 rfl (lv_at hl 2 rfl) ?_
  refine lv_bipush (v := 7) hx hb dL_act_9 (by decide) ?_
  refine lv_ishr hx hb dL_act_11 ?_
  refine lv_iconst (v := 3) hx hb dL_act_12 (by decide) ?_
  refine kL_45 X hJ (mL_low l E B _ (a1 >>> (7 &&& 31)) 3 (by decide)) rfl hl.1 ⟨Nat.le_of_ble_eq_true rfl, Nat.le_of_ble_eq_true rfl⟩ ⟨Nat.le_refl _, Nat.le_refl _⟩ (rest := []) rfl (Nat.le_of_ble_eq_true rfl) dL_act_13 (fun H locs hJ => ?_)
  refine lv_istore (lv' := [(4, .int (sL_low (a1 >>> (7 &&& 31)) 3)), (3, .int (sL_low (a1 >>> (4 &&& 31)) 4)), (0, .ref (B + 0)), (1, .int a1), (2, .int a2)]) hx hb dL_act_16 hl (by decide) rfl (fun ls hl => ?_)
  refine lv_iload_n hx hb dL_act_18 rfl (lv_at hl 3 rfl) ?_
  refine lv_bipush (v := 14) hx hb dL_act_19 (by decide) ?_
  refine kL_45 X hJ (mL_low l E B _ a1 14 (by decide)) rfl hl.1 ⟨Nat.le_of_ble_eq_true rfl, Nat.le_of_ble_eq_true rfl⟩ ⟨Nat.le_refl _, Nat.le_refl _⟩ (rest := []) rfl (Nat.le_of_ble_eq_true rfl) dL_act_21 (fun H locs hJ => ?_)
  by_cases c_24_0 : sL_low a1 14 = 0
  · rw [c_24_0]
    refine lv_tableIn (tgt := 72) hx hb dL_act_24 (by decide) (by decide) (off := 48) (by decide) (by decide) ?_
    refine lv_aload_n hx hb dL_act_72 rfl (lv_at hl 2 rfl) ?_
    refine lv_iload_n hx hb dL_act_73 rfl (lv_at hl 4 rfl) ?_
    refine lv_iconst (v := 4) hx hb dL_act_74 (by decide) ?_
    refine kL_45 X hJ (mL_low l E B _ a2 4 (by decide)) rfl hl.1 ⟨Nat.le_of_ble_eq_true rfl, Nat.le_of_ble_eq_true rfl⟩ ⟨Nat.le_refl _, Nat.le_refl _⟩ (rest := [.ref (B + 0)]) rfl (Nat.le_of_ble_eq_true rfl) dL_act_75 (fun H locs hJ => ?_)
    refine lv_iload_n hx hb dL_act_78 rfl (lv_at hl 4 rfl) ?_
    refine lv_iconst (v := 2) hx hb dL_act_79 (by decide) ?_
    refine lv_ishr hx hb dL_act_80 ?_
    refine lv_iconst (v := 4) hx hb dL_act_81 (by decide) ?_
    refine kL_45 X hJ (mL_low l E B _ (a2 >>> (2 &&& 31)) 4 (by decide)) rfl hl.1 ⟨Nat.le_of_ble_eq_true rfl, Nat.le_of_ble_eq_true rfl⟩ ⟨Nat.le_refl _, Nat.le_refl _⟩ (rest := [.int (sL_low a2 4), .ref (B + 0)]) rfl (Nat.le_of_ble_eq_true rfl) dL_act_82 (fun H locs hJ => ?_)
    refine lv_iconst (v := 2) hx hb dL_act_85 (by decide) ?_
    refine lv_iload_n hx hb dL_act_86 rfl (lv_at hl 4 rfl) ?_
    refine lv_iconst (v := 4) hx hb dL_act_87 (by decide) ?_
    refine lv_ishr hx hb dL_act_88 ?_
    refine lv_iload_n hx hb dL_act_89 rfl (lv_at hl 3 rfl) ?_
    refine lv_bipush (v := 9) hx hb dL_act_90 (by decide) ?_
    refine lv_ishr hx hb dL_act_92 ?_
    refine lv_iconst (v := 3) hx hb dL_act_93 (by decide) ?_
    refine kL_45 X hJ (mL_low l E B _ (a1 >>> (9 &&& 31)) 3 (by decide)) rfl hl.1 ⟨Nat.le_of_ble_eq_true rfl, Nat.le_of_ble_eq_true rfl⟩ ⟨Nat.le_refl _, Nat.le_refl _⟩ (rest := [.int (a2 >>> (4 &&& 31)), .int 2, .int (sL_low (a2 >>> (2 &&& 31)) 4), .int (sL_low a2 4), .ref (B + 0)]) rfl (Nat.le_of_ble_eq_true rfl) dL_act_94 (fun H locs hJ => ?_)
    refine lv_if_ne (tgt := 106) hx hb dL_act_97 (by decide) (fun c_97 => ?_) (fun c_97 => ?_)
    · skip
      refine lv_bipush (v := 12) hx hb dL_act_106 (by decide) ?_
      refine kL_45 X hJ (mL_low l E B _ (a2 >>> (4 &&& 31)) 12 (by decide)) rfl hl.1 ⟨Nat.le_of_ble_eq_true rfl, Nat.le_of_ble_eq_true rfl⟩ ⟨Nat.le_refl _, Nat.le_refl _⟩ (rest := [.int 2, .int (sL_low (a2 >>> (2 &&& 31)) 4), .int (sL_low a2 4), .ref (B + 0)]) rfl (Nat.le_of_ble_eq_true rfl) dL_act_108 (fun H locs hJ => ?_)
      refine lv_iadd hx hb dL_act_111 ?_
      refine kL_84 X hJ (mX6_bridge l E B g (sL_low a2 4) (sL_low (a2 >>> (2 &&& 31)) 4) ((2 : Int32) + (sL_low (a2 >>> (4 &&& 31)) 12)) (hgn)) rfl (by omega) at_X hl.1 ⟨Nat.le_of_ble_eq_true rfl, Nat.le_of_ble_eq_true rfl⟩ ⟨Nat.le_refl _, Nat.le_refl _⟩ (rest := []) rfl (Nat.le_of_ble_eq_true rfl) dL_act_112 (fun H locs hJ => ?_)
      have hs : sL_act g a1 a2 = ((sX6_bridge g (sL_low a2 4) (sL_low (a2 >>> (2 &&& 31)) 4) ((2 : Int32) + (sL_low (a2 >>> (4 &&& 31)) 12))).1, (sX6_bridge g (sL_low a2 4) (sL_low (a2 >>> (2 &&& 31)) 4) ((2 : Int32) + (sL_low (a2 >>> (4 &&& 31)) 12))).2) := by unfold sL_act; rw [if_pos c_24_0, if_neg c_97]
      exact fin (by rw [hs]; dsimp only; exact hJ) (by rw [hs]) dL_act_115
    · skip
      refine lv_sipush (v := 999) hx hb dL_act_100 (by decide) ?_
      refine lv_goto (tgt := 108) hx hb dL_act_103 (by decide) ?_
      refine kL_45 X hJ (mL_low l E B _ (a2 >>> (4 &&& 31)) 999 (by decide)) rfl hl.1 ⟨Nat.le_of_ble_eq_true rfl, Nat.le_of_ble_eq_true rfl⟩ ⟨Nat.le_refl _, Nat.le_refl _⟩ (rest := [.int 2, .int (sL_low (a2 >>> (2 &&& 31)) 4), .int (sL_low a2 4), .ref (B + 0)]) rfl (Nat.le_of_ble_eq_true rfl) dL_act_108 (fun H locs hJ => ?_)
      refine lv_iadd hx hb dL_act_111 ?_
      refine kL_84 X hJ (mX6_bridge l E B g (sL_low a2 4) (sL_low (a2 >>> (2 &&& 31)) 4) ((2 : Int32) + (sL_low (a2 >>> (4 &&& 31)) 999)) (hgn)) rfl (by omega) at_X hl.1 ⟨Nat.le_of_ble_eq_true rfl, Nat.le_of_ble_eq_true rfl⟩ ⟨Nat.le_refl _, Nat.le_refl _⟩ (rest := []) rfl (Nat.le_of_ble_eq_true rfl) dL_act_112 (fun H locs hJ => ?_)
      have hs : sL_act g a1 a2 = ((sX6_bridge g (sL_low a2 4) (sL_low (a2 >>> (2 &&& 31)) 4) ((2 : Int32) + (sL_low (a2 >>> (4 &&& 31)) 999))).1, (sX6_bridge g (sL_low a2 4) (sL_low (a2 >>> (2 &&& 31)) 4) ((2 : Int32) + (sL_low (a2 >>> (4 &&& 31)) 999))).2) := by unfold sL_act; rw [if_pos c_24_0, if_pos c_97]
      exact fin (by rw [hs]; dsimp only; exact hJ) (by rw [hs]) dL_act_115
  by_cases c_24_1 : sL_low a1 14 = 1
  · rw [c_24_1]
    refine lv_tableIn (tgt := 116) hx hb dL_act_24 (by decide) (by decide) (off := 92) (by decide) (by decide) ?_
    refine lv_aload_n hx hb dL_act_116 rfl (lv_at hl 2 rfl) ?_
    refine lv_iload_n hx hb dL_act_117 rfl (lv_at hl 4 rfl) ?_
    refine lv_iconst (v := 3) hx hb dL_act_118 (by decide) ?_
    refine kL_45 X hJ (mL_low l E B _ a2 3 (by decide)) rfl hl.1 ⟨Nat.le_of_ble_eq_true rfl, Nat.le_of_ble_eq_true rfl⟩ ⟨Nat.le_refl _, Nat.le_refl _⟩ (rest := [.ref (B + 0)]) rfl (Nat.le_of_ble_eq_true rfl) dL_act_119 (fun H locs hJ => ?_)
    refine lv_iload_n hx hb dL_act_122 rfl (lv_at hl 4 rfl) ?_
    refine lv_iconst (v := 2) hx hb dL_act_123 (by decide) ?_
    refine lv_ishr hx hb dL_act_124 ?_
    refine lv_iload_n hx hb dL_act_125 rfl (lv_at hl 3 rfl) ?_
    refine lv_bipush (v := 9) hx hb dL_act_126 (by decide) ?_
    refine lv_ishr hx hb dL_act_128 ?_
    refine lv_iconst (v := 3) hx hb dL_act_129 (by decide) ?_
    refine kL_45 X hJ (mL_low l E B _ (a1 >>> (9 &&& 31)) 3 (by decide)) rfl hl.1 ⟨Nat.le_of_ble_eq_true rfl, Nat.le_of_ble_eq_true rfl⟩ ⟨Nat.le_refl _, Nat.le_refl _⟩ (rest := [.int (a2 >>> (2 &&& 31)), .int (sL_low a2 3), .ref (B + 0)]) rfl (Nat.le_of_ble_eq_true rfl) dL_act_130 (fun H locs hJ => ?_)
    refine lv_if_ne (tgt := 142) hx hb dL_act_133 (by decide) (fun c_133 => ?_) (fun c_133 => ?_)
    · skip
      refine lv_bipush (v := 9) hx hb dL_act_142 (by decide) ?_
      refine kL_45 X hJ (mL_low l E B _ (a2 >>> (2 &&& 31)) 9 (by decide)) rfl hl.1 ⟨Nat.le_of_ble_eq_true rfl, Nat.le_of_ble_eq_true rfl⟩ ⟨Nat.le_refl _, Nat.le_refl _⟩ (rest := [.int (sL_low a2 3), .ref (B + 0)]) rfl (Nat.le_of_ble_eq_true rfl) dL_act_144 (fun H locs hJ => ?_)
      refine kL_87 X hJ (mX6_cart l E B g (sL_low a2 3) (sL_low (a2 >>> (2 &&& 31)) 9) (hgn)) rfl (by omega) at_X hl.1 ⟨Nat.le_of_ble_eq_true rfl, Nat.le_of_ble_eq_true rfl⟩ ⟨Nat.le_refl _, Nat.le_refl _⟩ (rest := []) rfl (Nat.le_of_ble_eq_true rfl) dL_act_147 (fun H locs hJ => ?_)
      have hs : sL_act g a1 a2 = ((sX6_cart g (sL_low a2 3) (sL_low (a2 >>> (2 &&& 31)) 9)).1, (sX6_cart g (sL_low a2 3) (sL_low (a2 >>> (2 &&& 31)) 9)).2) := by unfold sL_act; rw [if_neg c_24_0, if_pos c_24_1, if_neg c_133]
      exact fin (by rw [hs]; dsimp only; exact hJ) (by rw [hs]) dL_act_150
    · skip
      refine lv_sipush (v := 10000) hx hb dL_act_136 (by decide) ?_
      refine lv_goto (tgt := 144) hx hb dL_act_139 (by decide) ?_
      refine kL_45 X hJ (mL_low l E B _ (a2 >>> (2 &&& 31)) 10000 (by decide)) rfl hl.1 ⟨Nat.le_of_ble_eq_true rfl, Nat.le_of_ble_eq_true rfl⟩ ⟨Nat.le_refl _, Nat.le_refl _⟩ (rest := [.int (sL_low a2 3), .ref (B + 0)]) rfl (Nat.le_of_ble_eq_true rfl) dL_act_144 (fun H locs hJ => ?_)
      refine kL_87 X hJ (mX6_cart l E B g (sL_low a2 3) (sL_low (a2 >>> (2 &&& 31)) 10000) (hgn)) rfl (by omega) at_X hl.1 ⟨Nat.le_of_ble_eq_true rfl, Nat.le_of_ble_eq_true rfl⟩ ⟨Nat.le_refl _, Nat.le_refl _⟩ (rest := []) rfl (Nat.le_of_ble_eq_true rfl) dL_act_147 (fun H locs hJ => ?_)
      have hs : sL_act g a1 a2 = ((sX6_cart g (sL_low a2 3) (sL_low (a2 >>> (2 &&& 31)) 10000)).1, (sX6_cart g (sL_low a2 3) (sL_low (a2 >>> (2 &&& 31)) 10000)).2) := by unfold sL_act; rw [if_neg c_24_0, if_pos c_24_1, if_pos c_133]
      exact fin (by rw [hs]; dsimp only; exact hJ) (by rw [hs]) dL_act_150
  by_cases c_24_2 : sL_low a1 14 = 2
  · rw [c_24_2]
    refine lv_tableIn (tgt := 151) hx hb dL_act_24 (by decide) (by decide) (off := 127) (by decide) (by decide) ?_
    refine lv_iload_n hx hb dL_act_151 rfl (lv_at hl 3 rfl) ?_
    refine lv_iconst (v := 4) hx hb dL_act_152 (by decide) ?_
    refine lv_ishr hx hb dL_act_153 ?_
    refine lv_iconst (v := 4) hx hb dL_act_154 (by decide) ?_
    refine kL_45 X hJ (mL_low l E B _ (a1 >>> (4 &&& 31)) 4 (by decide)) rfl hl.1 ⟨Nat.le_of_ble_eq_true rfl, Nat.le_of_ble_eq_true rfl⟩ ⟨Nat.le_refl _, Nat.le_refl _⟩ (rest := []) rfl (Nat.le_of_ble_eq_true rfl) dL_act_155 (fun H locs hJ => ?_)
    refine lv_istore (lv' := [(5, .int (sL_low (a1 >>> (4 &&& 31)) 4)), (4, .int (sL_low (a1 >>> (7 &&& 31)) 3)), (3, .int (sL_low (a1 >>> (4 &&& 31)) 4)), (0, .ref (B + 0)), (1, .int a1), (2, .int a2)]) hx hb dL_act_158 hl (by decide) rfl (fun ls hl => ?_)
    refine lv_aload_n hx hb dL_act_160 rfl (lv_at hl 3 rfl) ?_
    refine lv_iload hx hb dL_act_161 (lv_at hl 0 rfl) ?_
    refine lv_iload hx hb dL_act_163 (lv_at hl 0 rfl) ?_
    refine lv_iconst (v := 3) hx hb dL_act_165 (by decide) ?_
    refine lv_icmp_ne (tgt := 180) hx hb dL_act_166 (by decide) (fun c_166 => ?_) (fun c_166 => ?_)
    · skip
      refine lv_iload_n hx hb dL_act_180 rfl (lv_at hl 5 rfl) ?_
      refine lv_bipush (v := 7) hx hb dL_act_181 (by decide) ?_
      refine kL_45 X hJ (mL_low l E B _ a2 7 (by decide)) rfl hl.1 ⟨Nat.le_of_ble_eq_true rfl, Nat.le_of_ble_eq_true rfl⟩ ⟨Nat.le_refl _, Nat.le_refl _⟩ (rest := [.int (sL_low (a1 >>> (4 &&& 31)) 4), .ref (B + 0)]) rfl (Nat.le_of_ble_eq_true rfl) dL_act_183 (fun H locs hJ => ?_)
      refine kL_90 X hJ (mX6_set l E B g (sL_low (a1 >>> (4 &&& 31)) 4) (sL_low a2 7) (hgn)) rfl (by omega) at_X hl.1 ⟨Nat.le_of_ble_eq_true rfl, Nat.le_of_ble_eq_true rfl⟩ ⟨Nat.le_refl _, Nat.le_refl _⟩ (rest := []) rfl (Nat.le_of_ble_eq_true rfl) dL_act_186 (fun H locs hJ => ?_)
      have hs : sL_act g a1 a2 = ((sX6_set g (sL_low (a1 >>> (4 &&& 31)) 4) (sL_low a2 7)).1, (sX6_set g (sL_low (a1 >>> (4 &&& 31)) 4) (sL_low a2 7)).2) := by unfold sL_act; rw [if_neg c_24_0, if_neg c_24_1, if_pos c_24_2, if_neg c_166]
      exact fin (by rw [hs]; dsimp only; exact hJ) (by rw [hs]) dL_act_189
    · skip
      refine lv_iconst (v := 1) hx hb dL_act_169 (by decide) ?_
      refine lv_iload_n hx hb dL_act_170 rfl (lv_at hl 5 rfl) ?_
      refine lv_bipush (v := 8) hx hb dL_act_171 (by decide) ?_
      refine kL_45 X hJ (mL_low l E B _ a2 8 (by decide)) rfl hl.1 ⟨Nat.le_of_ble_eq_true rfl, Nat.le_of_ble_eq_true rfl⟩ ⟨Nat.le_refl _, Nat.le_refl _⟩ (rest := [.int 1, .int (sL_low (a1 >>> (4 &&& 31)) 4), .ref (B + 0)]) rfl (Nat.le_of_ble_eq_true rfl) dL_act_173 (fun H locs hJ => ?_)
      refine lv_iadd hx hb dL_act_176 ?_
      refine lv_goto (tgt := 186) hx hb dL_act_177 (by decide) ?_
      refine kL_90 X hJ (mX6_set l E B g (sL_low (a1 >>> (4 &&& 31)) 4) ((1 : Int32) + (sL_low a2 8)) (hgn)) rfl (by omega) at_X hl.1 ⟨Nat.le_of_ble_eq_true rfl, Nat.le_of_ble_eq_true rfl⟩ ⟨Nat.le_refl _, Nat.le_refl _⟩ (rest := []) rfl (Nat.le_of_ble_eq_true rfl) dL_act_186 (fun H locs hJ => ?_)
      have hs : sL_act g a1 a2 = ((sX6_set g (sL_low (a1 >>> (4 &&& 31)) 4) ((1 : Int32) + (sL_low a2 8))).1, (sX6_set g (sL_low (a1 >>> (4 &&& 31)) 4) ((1 : Int32) + (sL_low a2 8))).2) := by unfold sL_act; rw [if_neg c_24_0, if_neg c_24_1, if_pos c_24_2, if_pos c_166]
      exact fin (by rw [hs]; dsimp only; exact hJ) (by rw [hs]) dL_act_189
  by_cases c_24_3 : sL_low a1 14 = 3
  · rw [c_24_3]
    refine lv_tableIn (tgt := 190) hx hb dL_act_24 (by decide) (by decide) (off := 166) (by decide) (by decide) ?_
    refine lv_aload_n hx hb dL_act_190 rfl (lv_at hl 2 rfl) ?_
    refine lv_iload_n hx hb dL_act_191 rfl (lv_at hl 1 rfl) ?_
    refine kL_93 X hJ (mX6_leave l E B g (sL_low (a1 >>> (4 &&& 31)) 4) (hgn)) rfl (by omega) at_X hl.1 ⟨Nat.le_of_ble_eq_true rfl, Nat.le_of_ble_eq_true rfl⟩ ⟨Nat.le_refl _, Nat.le_refl _⟩ (rest := []) rfl (Nat.le_of_ble_eq_true rfl) dL_act_192 (fun H locs hJ => ?_)
    have hs : sL_act g a1 a2 = ((sX6_leave g (sL_low (a1 >>> (4 &&& 31)) 4)).1, (sX6_leave g (sL_low (a1 >>> (4 &&& 31)) 4)).2) := by unfold sL_act; rw [if_neg c_24_0, if_neg c_24_1, if_neg c_24_2, if_pos c_24_3]
    exact fin (by rw [hs]; dsimp only; exact hJ) (by rw [hs]) dL_act_195
  by_cases c_24_4 : sL_low a1 14 = 4
  · rw [c_24_4]
    refine lv_tableIn (tgt := 196) hx hb dL_act_24 (by decide) (by decide) (off := 172) (by decide) (by decide) ?_
    have hs : sL_act g a1 a2 = bL_act_196 g (sL_low (a1 >>> (4 &&& 31)) 4) (sL_low (a1 >>> (7 &&& 31)) 3) := by unfold sL_act; rw [if_neg c_24_0, if_neg c_24_1, if_neg c_24_2, if_neg c_24_3, if_pos c_24_4]
    exact bk_196 g (sL_low (a1 >>> (4 &&& 31)) 4) (sL_low (a1 >>> (7 &&& 31)) 3) (hgn) _ _ _ hJ (lv_sub hl [2, 1, 0] rfl) hs
  by_cases c_24_5 : sL_low a1 14 = 5
  · rw [c_24_5]
    refine lv_tableIn (tgt := 196) hx hb dL_act_24 (by decide) (by decide) (off := 172) (by decide) (by decide) ?_
    have hs : sL_act g a1 a2 = bL_act_196 g (sL_low (a1 >>> (4 &&& 31)) 4) (sL_low (a1 >>> (7 &&& 31)) 3) := by unfold sL_act; rw [if_neg c_24_0, if_neg c_24_1, if_neg c_24_2, if_neg c_24_3, if_neg c_24_4, if_pos c_24_5]
    exact bk_196 g (sL_low (a1 >>> (4 &&& 31)) 4) (sL_low (a1 >>> (7 &&& 31)) 3) (hgn) _ _ _ hJ (lv_sub hl [2, 1, 0] rfl) hs
  by_cases c_24_6 : sL_low a1 14 = 6
  · rw [c_24_6]
    refine lv_tableIn (tgt := 204) hx hb dL_act_24 (by decide) (by decide) (off := 180) (by decide) (by decide) ?_
    have hs : sL_act g a1 a2 = bL_act_204 g a2 := by unfold sL_act; rw [if_neg c_24_0, if_neg c_24_1, if_neg c_24_2, if_neg c_24_3, if_neg c_24_4, if_neg c_24_5, if_pos c_24_6]
    exact bk_204 g a2 (hgn) _ _ _ hJ (lv_sub hl [2, 4] rfl) hs
  by_cases c_24_7 : sL_low a1 14 = 7
  · rw [c_24_7]
    refine lv_tableIn (tgt := 204) hx hb dL_act_24 (by decide) (by decide) (off := 180) (by decide) (by decide) ?_
    have hs : sL_act g a1 a2 = bL_act_204 g a2 := by unfold sL_act; rw [if_neg c_24_0, if_neg c_24_1, if_neg c_24_2, if_neg c_24_3, if_neg c_24_4, if_neg c_24_5, if_neg c_24_6, if_pos c_24_7]
    exact bk_204 g a2 (hgn) _ _ _ hJ (lv_sub hl [2, 4] rfl) hs
  refine rtabOut (tgt := 216) hx hb dL_act_24 (by decide) (fun h1 h2 => ?_) ?_
  · exfalso; have e0 := ne_toInt (n := 0) c_24_0 (by decide); have e1 := ne_toInt (n := 1) c_24_1 (by decide); have e2 := ne_toInt (n := 2) c_24_2 (by decide); have e3 := ne_toInt (n := 3) c_24_3 (by decide); have e4 := ne_toInt (n := 4) c_24_4 (by decide); have e5 := ne_toInt (n := 5) c_24_5 (by decide); have e6 := ne_toInt (n := 6) c_24_6 (by decide); have e7 := ne_toInt (n := 7) c_24_7 (by decide); omega
  refine lv_aload_n hx hb dL_act_216 rfl (lv_at hl 2 rfl) ?_
  refine lv_iload_n hx hb dL_act_217 rfl (lv_at hl 1 rfl) ?_
  refine lv_iload hx hb dL_act_218 (lv_at hl 0 rfl) ?_
  refine lv_iload_n hx hb dL_act_220 rfl (lv_at hl 4 rfl) ?_
  refine lv_bipush (v := 10) hx hb dL_act_221 (by decide) ?_
  refine kL_45 X hJ (mL_low l E B _ a2 10 (by decide)) rfl hl.1 ⟨Nat.le_of_ble_eq_true rfl, Nat.le_of_ble_eq_true rfl⟩ ⟨Nat.le_refl _, Nat.le_refl _⟩ (rest := [.int (sL_low (a1 >>> (7 &&& 31)) 3), .int (sL_low (a1 >>> (4 &&& 31)) 4), .ref (B + 0)]) rfl (Nat.le_of_ble_eq_true rfl) dL_act_223 (fun H locs hJ => ?_)
  refine kL_99 X hJ (mX6_guess l E B g (sL_low (a1 >>> (4 &&& 31)) 4) (sL_low (a1 >>> (7 &&& 31)) 3) (sL_low a2 10) (hgn)) rfl (by omega) at_X hl.1 ⟨Nat.le_of_ble_eq_true rfl, Nat.le_of_ble_eq_true rfl⟩ ⟨Nat.le_refl _, Nat.le_refl _⟩ (rest := []) rfl (Nat.le_of_ble_eq_true rfl) dL_act_226 (fun H locs hJ => ?_)
  have hs : sL_act g a1 a2 = ((sX6_guess g (sL_low (a1 >>> (4 &&& 31)) 4) (sL_low (a1 >>> (7 &&& 31)) 3) (sL_low a2 10)).1, (sX6_guess g (sL_low (a1 >>> (4 &&& 31)) 4) (sL_low (a1 >>> (7 &&& 31)) 3) (sL_low a2 10)).2) := by unfold sL_act; rw [if_neg c_24_0, if_neg c_24_1, if_neg c_24_2, if_neg c_24_3, if_neg c_24_4, if_neg c_24_5, if_neg c_24_6, if_neg c_24_7]
  exact fin (by rw [hs]; dsimp only; exact hJ) (by rw [hs]) dL_act_229
