def bL_guesses_252 (g : GS) (v5 : Int32) (v8 : Int32) (v10 : Int32) (v11 : Int32) : Int32 := if v8 < v11 then (1) else (if v5 < v10 then (0) else (1))
def bL_guesses_210 (g : GS) (v1 : Int32) (v2 : Int32) (v5 : Int32) (v6 : Int32) (v8 : Int32) (v10 : Int32) (v11 : Int32) : Int32 := 0
def bL_guesses_206 (g : GS) (v1 : Int32) (v2 : Int32) (v5 : Int32) (v6 : Int32) (v8 : Int32) (v10 : Int32) (v11 : Int32) : Int32 := if v11 < v8 then (0) else (if v11 = 0 then (bL_guesses_252 g v5 v8 v10 v11) else (if sX6_wins g v1 v2 v10 v6 = v11 then (if v10 = v6 then (0) else (bL_guesses_252 g v5 v8 v10 v11)) else (0)))
def bL_guesses_160 (g : GS) (v1 : Int32) (v2 : Int32) (v5 : Int32) (v6 : Int32) (v8 : Int32) (v10 : Int32) (v11 : Int32) : Int32 := 0
def bL_guesses_139 (g : GS) (v1 : Int32) (v2 : Int32) (v5 : Int32) (v6 : Int32) (v7 : Int32) (v8 : Int32) (v9 : Int32) (v10 : Int32) (v11 : Int32) : Int32 := if v5 = v6 then (if v8 = 0 then (if v9 = 0 then (if v11 < v8 then (0) else (if v11 = 0 then (bL_guesses_252 g v5 v8 v10 v11) else (if sX6_wins g v1 v2 v10 v6 = v11 then (if v10 = v6 then (0) else (bL_guesses_252 g v5 v8 v10 v11)) else (0)))) else (bL_guesses_160 g v1 v2 v5 v6 v8 v10 v11)) else (bL_guesses_160 g v1 v2 v5 v6 v8 v10 v11)) else (if v7 < v8 + v9 then (bL_guesses_210 g v1 v2 v5 v6 v8 v10 v11) else (if v8 + v9 < v7 - 1 then (bL_guesses_210 g v1 v2 v5 v6 v8 v10 v11) else (if (v5 + v6) - (v5 + v6) / 2 * 2 = 0 then (bL_guesses_206 g v1 v2 v5 v6 v8 v10 v11) else (if v8 + v9 = v7 then (bL_guesses_206 g v1 v2 v5 v6 v8 v10 v11) else (bL_guesses_210 g v1 v2 v5 v6 v8 v10 v11)))))
def bL_guesses_18 (g : GS) (v1 : Int32) (v2 : Int32) : Int32 := if sX6_wins g v1 v2 0 0 = (-1) then (if sX6_bestGuess g v1 v2 0 0 = (-1) then (1) else (0)) else (0)
def sL_guesses (g : GS) (a1 : Int32) (a2 : Int32) (a3 : Int32) : Int32 := if sX6_count g 2 ≤ a1 then (bL_guesses_18 g a1 a2) else (if a2 < sX6_count g 1 then (bL_guesses_139 g a1 a2 (sL_low a3 (sX6_ofBridge g a2 2)) (sL_low (a3 >>> (4 &&& 31)) (sX6_ofBridge g a2 2)) (((sX6_knows g a1 a2 1) - (sX6_knows g a1 a2 0)) + 1) (sX6_wins g a1 a2 (sL_low a3 (sX6_ofBridge g a2 2)) (sL_low (a3 >>> (4 &&& 31)) (sX6_ofBridge g a2 2))) (sX6_wins g a1 a2 (sL_low (a3 >>> (4 &&& 31)) (sX6_ofBridge g a2 2)) (sL_low a3 (sX6_ofBridge g a2 2))) (sX6_bestGuess g a1 a2 (sL_low (a3 >>> (4 &&& 31)) (sX6_ofBridge g a2 2)) 0) (sX6_bestGuess g a1 a2 (sL_low (a3 >>> (4 &&& 31)) (sX6_ofBridge g a2 2)) 1)) else (bL_guesses_18 g a1 a2))
theorem b01_bL_guesses_252 {g : GS} {v5 : Int32} {v8 : Int32} {v10 : Int32} {v11 : Int32} : b01 (bL_guesses_252 g v5 v8 v10 v11) := by
  unfold bL_guesses_252
  exact b01_r2 (Or.inr rfl) (b01_r2 (Or.inl rfl) (Or.inr rfl))
theorem b01_bL_guesses_210 {g : GS} {v1 : Int32} {v2 : Int32} {v5 : Int32} {v6 : Int32} {v8 : Int32} {v10 : Int32} {v11 : Int32} : b01 (bL_guesses_210 g v1 v2 v5 v6 v8 v10 v11) := by
  unfold bL_guesses_210
  exact Or.inl rfl
theorem b01_bL_guesses_206 {g : GS} {v1 : Int32} {v2 : Int32} {v5 : Int32} {v6 : Int32} {v8 : Int32} {v10 : Int32} {v11 : Int32} : b01 (bL_guesses_206 g v1 v2 v5 v6 v8 v10 v11) := by
  unfold bL_guesses_206
  exact b01_r2 (Or.inl rfl) (b01_r2 (b01_bL_guesses_252) (b01_r2 (b01_r2 (Or.inl rfl) (b01_bL_guesses_252)) (Or.inl rfl)))
theorem b01_bL_guesses_160 {g : GS} {v1 : Int32} {v2 : Int32} {v5 : Int32} {v6 : Int32} {v8 : Int32} {v10 : Int32} {v11 : Int32} : b01 (bL_guesses_160 g v1 v2 v5 v6 v8 v10 v11) := by
  unfold bL_guesses_160
  exact Or.inl rfl
theorem b01_bL_guesses_139 {g : GS} {v1 : Int32} {v2 : Int32} {v5 : Int32} {v6 : Int32} {v7 : Int32} {v8 : Int32} {v9 : Int32} {v10 : Int32} {v11 : Int32} : b01 (bL_guesses_139 g v1 v2 v5 v6 v7 v8 v9 v10 v11) := by
  unfold bL_guesses_139
  exact b01_r2 (b01_r2 (b01_r2 (b01_r2 (Or.inl rfl) (b01_r2 (b01_bL_guesses_252) (b01_r2 (b01_r2 (Or.inl rfl) (b01_bL_guesses_252)) (Or.inl rfl)))) (b01_bL_guesses_160)) (b01_bL_guesses_160)) (b01_r2 (b01_bL_guesses_210) (b01_r2 (b01_bL_guesses_210) (b01_r2 (b01_bL_guesses_206) (b01_r2 (b01_bL_guesses_206) (b01_bL_guesses_210)))))
theorem b01_bL_guesses_18 {g : GS} {v1 : Int32} {v2 : Int32} : b01 (bL_guesses_18 g v1 v2) := by
  unfold bL_guesses_18
  exact b01_r2 (b01_r2 (Or.inr rfl) (Or.inl rfl)) (Or.inl rfl)
theorem b01_sL_guesses {g : GS} {a1 : Int32} {a2 : Int32} {a3 : Int32} : b01 (sL_guesses g a1 a2 a3) := by
  unfold sL_guesses
  exact b01_r2 (b01_bL_guesses_18) (b01_r2 (b01_bL_guesses_139) (b01_bL_guesses_18))
set_option maxHeartbeats 4000000 in
set_option maxRecDepth 100000 in
theorem mL_guesses (l : Launch) (E : EE) (B : Nat) (g : GS) (a1 : Int32) (a2 : Int32) (a3 : Int32) (hgn : Gn g) (hzn : Zn (g.1 0)) : CG l yL_guesses cL_guesses 13 (some .boolean) 4 87 E B [.ref (B + 0), .int a1, .int a2, .int a3] g (some (.int (sL_guesses g a1 a2 a3))) g := by
  refine mkI (own := RL) (ty := .boolean) rfl (by decide) rfl ((b01_sL_guesses).nar) (Nat.le_of_ble_eq_true rfl) (fun P_ e_ s_ m_ a_ below meth cd Q X fin ls hl hJ => ?_)
  have hx := X.1
  have hb := X.2.1
  have hl : lv_has ls 13 [(0, .ref (B + 0)), (1, .int a1), (2, .int a2), (3, .int a3)] := hl
  have bk_252 : ∀ (v5 : Int32) (v8 : Int32) (v10 : Int32) (v11 : Int32), ∀ (H : Heap) (locs : List Loc) (ls : Array Slot), JG E B s_ g H locs → lv_has ls 13 [(5, .int v5), (8, .int v8), (10, .int v10), (11, .int v11)] → sL_guesses g a1 a2 a3 = bL_guesses_252 g v5 v8 v10 v11 → W P_ l e_ (rmm 4 87 0 0) s_ m_ a_ below meth cd H locs 0 0 Q (F0 m_ 252 ls []) := by
    intro v5 v8 v10 v11 H locs ls hJ hl hs
    refine lv_iload hx hb dL_guesses_252 (lv_at hl 1 rfl) ?_
    refine lv_iload hx hb dL_guesses_254 (lv_at hl 3 rfl) ?_
    refine lv_icmp_lt (tgt := 266) hx hb dL_guesses_256 (by decide) (fun c_256 => ?_) (fun c_256 => ?_)
    · skip
      refine lv_iconst (v := 1) hx hb dL_guesses_266 (by decide) ?_
      refine lv_goto (tgt := 271) hx hb dL_guesses_267 (by decide) ?_
      have hs : sL_guesses g a1 a2 a3 = 1 := hs.trans (by unfold bL_guesses_252; rw [if_pos c_256])
      exact fin hJ (by rw [hs]) dL_guesses_271
    · skip
      refine lv_iload hx hb dL_guesses_259 (lv_at hl 0 rfl) ?_
      refine lv_iload hx hb dL_guesses_261 (lv_at hl 2 rfl) ?_
      refine lv_icmp_lt (tgt := 270) hx hb dL_guesses_263 (by decide) (fun c_263 => ?_) (fun c_263 => ?_)
      · skip
        refine lv_iconst (v := 0) hx hb dL_guesses_270 (by decide) ?_
        have hs : sL_guesses g a1 a2 a3 = 0 := hs.trans (by unfold bL_guesses_252; rw [if_neg c_256, if_pos c_263])
        exact fin hJ (by rw [hs]) dL_guesses_271
      · skip
        refine lv_iconst (v := 1) hx hb dL_guesses_266 (by decide) ?_
        refine lv_goto (tgt := 271) hx hb dL_guesses_267 (by decide) ?_
        have hs : sL_guesses g a1 a2 a3 = 1 := hs.trans (by unfold bL_guesses_252; rw [if_neg c_256, if_neg c_263])
        exact fin hJ (by rw [hs]) dL_guesses_271
  have bk_210 : ∀ (v1 : Int32) (v2 : Int32) (v5 : Int32) (v6 : Int32) (v8 : Int32) (v10 : Int32) (v11 : Int32), ∀ (H : Heap) (locs : List Loc) (ls : Array Slot), JG E B s_ g H locs → lv_has ls 13 [(0, .ref (B + 0)), (1, .int v1), (2, .int v2), (5, .int v5), (6, .int v6), (8, .int v8), (10, .int v10), (11, .int v11)] → sL_guesses g a1 a2 a3 = bL_guesses_210 g v1 v2 v5 v6 v8 v10 v11 → W P_ l e_ (rmm 4 87 0 0) s_ m_ a_ below meth cd H locs 0 0 Q (F0 m_ 210 ls []) := by
    intro v1 v2 v5 v6 v8 v10 v11 H locs ls hJ hl hs
    refine lv_iconst (v := 0) hx hb dL_guesses_210 (by decide) ?_
    refine lv_istore (lv' := [(12, .int 0), (0, .ref (B + 0)), (1, .int v1), (2, .int v2), (5, .int v5), (6, .int v6), (8, .int v8), (10, .int v10), (11, .int v11)]) hx hb dL_guesses_211 hl (by decide) rfl (fun ls hl => ?_)
    refine lv_iload hx hb dL_guesses_213 (lv_at hl 0 rfl) ?_
    refine lv_if_eq (tgt := 270) hx hb dL_guesses_215 (by decide) (fun c_215 => ?_) (fun c_215 => ?_)
    · skip
      refine lv_iconst (v := 0) hx hb dL_guesses_270 (by decide) ?_
      have hs : sL_guesses g a1 a2 a3 = 0 := hs.trans (by unfold bL_guesses_210; rfl)
      exact fin hJ (by rw [hs]) dL_guesses_271
    · exact absurd c_215 (by decide)
  have bk_206 : ∀ (v1 : Int32) (v2 : Int32) (v5 : Int32) (v6 : Int32) (v8 : Int32) (v10 : Int32) (v11 : Int32), ∀ (H : Heap) (locs : List Loc) (ls : Array Slot), JG E B s_ g H locs → lv_has ls 13 [(0, .ref (B + 0)), (1, .int v1), (2, .int v2), (5, .int v5), (6, .int v6), (8, .int v8), (10, .int v10), (11, .int v11)] → sL_guesses g a1 a2 a3 = bL_guesses_206 g v1 v2 v5 v6 v8 v10 v11 → W P_ l e_ (rmm 4 87 0 0) s_ m_ a_ below meth cd H locs 0 0 Q (F0 m_ 206 ls []) := by
    intro v1 v2 v5 v6 v8 v10 v11 H locs ls hJ hl hs
    refine lv_iconst (v := 1) hx hb dL_guesses_206 (by decide) ?_
    refine lv_goto (tgt := 211) hx hb dL_guesses_207 (by decide) ?_
    refine lv_istore (lv' := [(12, .int 1), (0, .ref (B + 0)), (1, .int v1), (2, .int v2), (5, .int v5), (6, .int v6), (8, .int v8), (10, .int v10), (11, .int v11)]) hx hb dL_guesses_211 hl (by decide) rfl (fun ls hl => ?_)
    refine lv_iload hx hb dL_guesses_213 (lv_at hl 0 rfl) ?_
    refine lv_if_eq (tgt := 270) hx hb dL_guesses_215 (by decide) (fun c_215 => ?_) (fun c_215 => ?_)
    · exact absurd c_215 (by decide)
    · skip
      refine lv_iload hx hb dL_guesses_218 (lv_at hl 6 rfl) ?_
      refine lv_iload hx hb dL_guesses_220 (lv_at hl 8 rfl) ?_
      refine lv_icmp_gt (tgt := 270) hx hb dL_guesses_222 (by decide) (fun c_222 => ?_) (fun c_222 => ?_)
      · skip
        refine lv_iconst (v := 0) hx hb dL_guesses_270 (by decide) ?_
        have hs : sL_guesses g a1 a2 a3 = 0 := hs.trans (by unfold bL_guesses_206; rw [if_pos c_222])
        exact fin hJ (by rw [hs]) dL_guesses_271
      · skip
        refine lv_iload hx hb dL_guesses_225 (lv_at hl 8 rfl) ?_
        refine lv_if_eq (tgt := 252) hx hb dL_guesses_227 (by decide) (fun c_227 => ?_) (fun c_227 => ?_)
        · skip
          have hs : sL_guesses g a1 a2 a3 = bL_guesses_252 g v5 v8 v10 v11 := hs.trans (by unfold bL_guesses_206; rw [if_neg c_222, if_pos c_227])
          exact bk_252 v5 v8 v10 v11 _ _ _ hJ (lv_sub hl [4, 6, 7, 8] rfl) hs
        · skip
          refine lv_aload_n hx hb dL_guesses_230 rfl (lv_at hl 1 rfl) ?_
          refine lv_iload_n hx hb dL_guesses_231 rfl (lv_at hl 2 rfl) ?_
          refine lv_iload_n hx hb dL_guesses_232 rfl (lv_at hl 3 rfl) ?_
          refine lv_iload hx hb dL_guesses_233 (lv_at hl 7 rfl) ?_
          refine lv_iload hx hb dL_guesses_235 (lv_at hl 5 rfl) ?_
          refine kL_77 X hJ (mX6_wins l E B g v1 v2 v10 v6 (hgn)) rfl (by omega) at_X hl.1 ⟨Nat.le_of_ble_eq_true rfl, Nat.le_of_ble_eq_true rfl⟩ ⟨Nat.le_refl _, Nat.le_refl _⟩ (rest := []) rfl (Nat.le_of_ble_eq_true rfl) dL_guesses_237 (fun H locs hJ => ?_)
          refine lv_iload hx hb dL_guesses_240 (lv_at hl 8 rfl) ?_
          refine lv_icmp_ne (tgt := 270) hx hb dL_guesses_242 (by decide) (fun c_242 => ?_) (fun c_242 => ?_)
          · skip
            refine lv_iconst (v := 0) hx hb dL_guesses_270 (by decide) ?_
            have hs : sL_guesses g a1 a2 a3 = 0 := hs.trans (by unfold bL_guesses_206; rw [if_neg c_222, if_neg c_227, if_neg c_242])
            exact fin hJ (by rw [hs]) dL_guesses_271
          · skip
            refine lv_iload hx hb dL_guesses_245 (lv_at hl 7 rfl) ?_
            refine lv_iload hx hb dL_guesses_247 (lv_at hl 5 rfl) ?_
            refine lv_icmp_eq (tgt := 270) hx hb dL_guesses_249 (by decide) (fun c_249 => ?_) (fun c_249 => ?_)
            · skip
              refine lv_iconst (v := 0) hx hb dL_guesses_270 (by decide) ?_
              have hs : sL_guesses g a1 a2 a3 = 0 := hs.trans (by unfold bL_guesses_206; rw [if_neg c_222, if_neg c_227, if_pos c_242, if_pos c_249])
              exact fin hJ (by rw [hs]) dL_guesses_271
            · skip
              have hs : sL_guesses g a1 a2 a3 = bL_guesses_252 g v5 v8 v10 v11 := hs.trans (by unfold bL_guesses_206; rw [if_neg c_222, if_neg c_227, if_pos c_242, if_neg c_249])
              exact bk_252 v5 v8 v10 v11 _ _ _ hJ (lv_sub hl [4, 6, 7, 8] rfl) hs
  have bk_160 : ∀ (v1 : Int32) (v2 : Int32) (v5 : Int32) (v6 : Int32) (v8 : Int32) (v10 : Int32) (v11 : Int32), ∀ (H : Heap) (locs : List Loc) (ls : Array Slot), JG E B s_ g H locs → lv_has ls 13 [(0, .ref (B + 0)), (1, .int v1), (2, .int v2), (5, .int v5), (6, .int v6), (8, .int v8), (10, .int v10), (11, .int v11)] → sL_guesses g a1 a2 a3 = bL_guesses_160 g v1 v2 v5 v6 v8 v10 v11 → W P_ l e_ (rmm 4 87 0 0) s_ m_ a_ below meth cd H locs 0 0 Q (F0 m_ 160 ls []) := by
    intro v1 v2 v5 v6 v8 v10 v11 H locs ls hJ hl hs
    refine lv_iconst (v := 0) hx hb dL_guesses_160 (by decide) ?_
    refine lv_goto (tgt := 211) hx hb dL_guesses_161 (by decide) ?_
    refine lv_istore (lv' := [(12, .int 0), (0, .ref (B + 0)), (1, .int v1), (2, .int v2), (5, .int v5), (6, .int v6), (8, .int v8), (10, .int v10), (11, .int v11)]) hx hb dL_guesses_211 hl (by decide) rfl (fun ls hl => ?_)
    refine lv_iload hx hb dL_guesses_213 (lv_at hl 0 rfl) ?_
    refine lv_if_eq (tgt := 270) hx hb dL_guesses_215 (by decide) (fun c_215 => ?_) (fun c_215 => ?_)
    · skip
      refine lv_iconst (v := 0) hx hb dL_guesses_270 (by decide) ?_
      have hs : sL_guesses g a1 a2 a3 = 0 := hs.trans (by unfold bL_guesses_160; rfl)
      exact fin hJ (by rw [hs]) dL_guesses_271
    · exact absurd c_215 (by decide)
  have bk_139 : ∀ (v1 : Int32) (v2 : Int32) (v5 : Int32) (v6 : Int32) (v7 : Int32) (v8 : Int32) (v9 : Int32) (v10 : Int32) (v11 : Int32), ∀ (H : Heap) (locs : List Loc) (ls : Array Slot), JG E B s_ g H locs → lv_has ls 13 [(0, .ref (B + 0)), (1, .int v1), (2, .int v2), (5, .int v5), (6, .int v6), (7, .int v7), (8, .int v8), (9, .int v9), (10, .int v10), (11, .int v11)] → sL_guesses g a1 a2 a3 = bL_guesses_139 g v1 v2 v5 v6 v7 v8 v9 v10 v11 → W P_ l e_ (rmm 4 87 0 0) s_ m_ a_ below meth cd H locs 0 0 Q (F0 m_ 139 ls []) := by
    intro v1 v2 v5 v6 v7 v8 v9 v10 v11 H locs ls hJ hl hs
    refine lv_iload hx hb dL_guesses_139 (lv_at hl 3 rfl) ?_
    refine lv_iload hx hb dL_guesses_141 (lv_at hl 4 rfl) ?_
    refine lv_icmp_ne (tgt := 164) hx hb dL_guesses_143 (by decide) (fun c_143 => ?_) (fun c_143 => ?_)
    · skip
      refine lv_iload hx hb dL_guesses_164 (lv_at hl 6 rfl) ?_
      refine lv_iload hx hb dL_guesses_166 (lv_at hl 7 rfl) ?_
      refine lv_iadd hx hb dL_guesses_168 ?_
      refine lv_iload hx hb dL_guesses_169 (lv_at hl 5 rfl) ?_
      refine lv_icmp_gt (tgt := 210) hx hb dL_guesses_171 (by decide) (fun c_171 => ?_) (fun c_171 => ?_)
      · skip
        have hs : sL_guesses g a1 a2 a3 = bL_guesses_210 g v1 v2 v5 v6 v8 v10 v11 := hs.trans (by unfold bL_guesses_139; rw [if_neg c_143, if_pos c_171])
        exact bk_210 v1 v2 v5 v6 v8 v10 v11 _ _ _ hJ (lv_sub hl [0, 1, 2, 3, 4, 6, 8, 9] rfl) hs
      · skip
        refine lv_iload hx hb dL_guesses_174 (lv_at hl 6 rfl) ?_
        refine lv_iload hx hb dL_guesses_176 (lv_at hl 7 rfl) ?_
        refine lv_iadd hx hb dL_guesses_178 ?_
        refine lv_iload hx hb dL_guesses_179 (lv_at hl 5 rfl) ?_
        refine lv_iconst (v := 1) hx hb dL_guesses_181 (by decide) ?_
        refine lv_isub hx hb dL_guesses_182 ?_
        refine lv_icmp_lt (tgt := 210) hx hb dL_guesses_183 (by decide) (fun c_183 => ?_) (fun c_183 => ?_)
        · skip
          have hs : sL_guesses g a1 a2 a3 = bL_guesses_210 g v1 v2 v5 v6 v8 v10 v11 := hs.trans (by unfold bL_guesses_139; rw [if_neg c_143, if_neg c_171, if_pos c_183])
          exact bk_210 v1 v2 v5 v6 v8 v10 v11 _ _ _ hJ (lv_sub hl [0, 1, 2, 3, 4, 6, 8, 9] rfl) hs
        · skip
          refine lv_iload hx hb dL_guesses_186 (lv_at hl 3 rfl) ?_
          refine lv_iload hx hb dL_guesses_188 (lv_at hl 4 rfl) ?_
          refine lv_iadd hx hb dL_guesses_190 ?_
          refine lv_iconst (v := 2) hx hb dL_guesses_191 (by decide) ?_
          refine lv_irem hx hb dL_guesses_192 (by decide) ?_
          refine lv_if_eq (tgt := 206) hx hb dL_guesses_193 (by decide) (fun c_193 => ?_) (fun c_193 => ?_)
          · skip
            have hs : sL_guesses g a1 a2 a3 = bL_guesses_206 g v1 v2 v5 v6 v8 v10 v11 := hs.trans (by unfold bL_guesses_139; rw [if_neg c_143, if_neg c_171, if_neg c_183, if_pos c_193])
            exact bk_206 v1 v2 v5 v6 v8 v10 v11 _ _ _ hJ (lv_sub hl [0, 1, 2, 3, 4, 6, 8, 9] rfl) hs
          · skip
            refine lv_iload hx hb dL_guesses_196 (lv_at hl 6 rfl) ?_
            refine lv_iload hx hb dL_guesses_198 (lv_at hl 7 rfl) ?_
            refine lv_iadd hx hb dL_guesses_200 ?_
            refine lv_iload hx hb dL_guesses_201 (lv_at hl 5 rfl) ?_
            refine lv_icmp_ne (tgt := 210) hx hb dL_guesses_203 (by decide) (fun c_203 => ?_) (fun c_203 => ?_)
            · skip
              have hs : sL_guesses g a1 a2 a3 = bL_guesses_210 g v1 v2 v5 v6 v8 v10 v11 := hs.trans (by unfold bL_guesses_139; rw [if_neg c_143, if_neg c_171, if_neg c_183, if_neg c_193, if_neg c_203])
              exact bk_210 v1 v2 v5 v6 v8 v10 v11 _ _ _ hJ (lv_sub hl [0, 1, 2, 3, 4, 6, 8, 9] rfl) hs
            · skip
              have hs : sL_guesses g a1 a2 a3 = bL_guesses_206 g v1 v2 v5 v6 v8 v10 v11 := hs.trans (by unfold bL_guesses_139; rw [if_neg c_143, if_neg c_171, if_neg c_183, if_neg c_193, if_pos c_203])
              exact bk_206 v1 v2 v5 v6 v8 v10 v11 _ _ _ hJ (lv_sub hl [0, 1, 2, 3, 4, 6, 8, 9] rfl) hs
    · skip
      refine lv_iload hx hb dL_guesses_146 (lv_at hl 6 rfl) ?_
      refine lv_if_ne (tgt := 160) hx hb dL_guesses_148 (by decide) (fun c_148 => ?_) (fun c_148 => ?_)
      · skip
        have hs : sL_guesses g a1 a2 a3 = bL_guesses_160 g v1 v2 v5 v6 v8 v10 v11 := hs.trans (by unfold bL_guesses_139; rw [if_pos c_143, if_neg c_148])
        exact bk_160 v1 v2 v5 v6 v8 v10 v11 _ _ _ hJ (lv_sub hl [0, 1, 2, 3, 4, 6, 8, 9] rfl) hs
      · skip
        refine lv_iload hx hb dL_guesses_151 (lv_at hl 7 rfl) ?_
        refine lv_if_ne (tgt := 160) hx hb dL_guesses_153 (by decide) (fun c_153 => ?_) (fun c_153 => ?_)
        · skip
          have hs : sL_guesses g a1 a2 a3 = bL_guesses_160 g v1 v2 v5 v6 v8 v10 v11 := hs.trans (by unfold bL_guesses_139; rw [if_pos c_143, if_pos c_148, if_neg c_153])
          exact bk_160 v1 v2 v5 v6 v8 v10 v11 _ _ _ hJ (lv_sub hl [0, 1, 2, 3, 4, 6, 8, 9] rfl) hs
        · skip
          refine lv_iconst (v := 1) hx hb dL_guesses_156 (by decide) ?_
          refine lv_goto (tgt := 211) hx hb dL_guesses_157 (by decide) ?_
          refine lv_istore (lv' := [(12, .int 1), (0, .ref (B + 0)), (1, .int v1), (2, .int v2), (5, .int v5), (6, .int v6), (7, .int v7), (8, .int v8), (9, .int v9), (10, .int v10), (11, .int v11)]) hx hb dL_guesses_211 hl (by decide) rfl (fun ls hl => ?_)
          refine lv_iload hx hb dL_guesses_213 (lv_at hl 0 rfl) ?_
          refine lv_if_eq (tgt := 270) hx hb dL_guesses_215 (by decide) (fun c_215 => ?_) (fun c_215 => ?_)
          · exact absurd c_215 (by decide)
          · skip
            refine lv_iload hx hb dL_guesses_218 (lv_at hl 7 rfl) ?_
            refine lv_iload hx hb dL_guesses_220 (lv_at hl 10 rfl) ?_
            refine lv_icmp_gt (tgt := 270) hx hb dL_guesses_222 (by decide) (fun c_222 => ?_) (fun c_222 => ?_)
            · skip
              refine lv_iconst (v := 0) hx hb dL_guesses_270 (by decide) ?_
              have hs : sL_guesses g a1 a2 a3 = 0 := hs.trans (by unfold bL_guesses_139; rw [if_pos c_143, if_pos c_148, if_pos c_153, if_pos c_222])
              exact fin hJ (by rw [hs]) dL_guesses_271
            · skip
              refine lv_iload hx hb dL_guesses_225 (lv_at hl 10 rfl) ?_
              refine lv_if_eq (tgt := 252) hx hb dL_guesses_227 (by decide) (fun c_227 => ?_) (fun c_227 => ?_)
              · skip
                have hs : sL_guesses g a1 a2 a3 = bL_guesses_252 g v5 v8 v10 v11 := hs.trans (by unfold bL_guesses_139; rw [if_pos c_143, if_pos c_148, if_pos c_153, if_neg c_222, if_pos c_227])
                exact bk_252 v5 v8 v10 v11 _ _ _ hJ (lv_sub hl [4, 7, 9, 10] rfl) hs
              · skip
                refine lv_aload_n hx hb dL_guesses_230 rfl (lv_at hl 1 rfl) ?_
                refine lv_iload_n hx hb dL_guesses_231 rfl (lv_at hl 2 rfl) ?_
                refine lv_iload_n hx hb dL_guesses_232 rfl (lv_at hl 3 rfl) ?_
                refine lv_iload hx hb dL_guesses_233 (lv_at hl 9 rfl) ?_
                refine lv_iload hx hb dL_guesses_235 (lv_at hl 5 rfl) ?_
                refine kL_77 X hJ (mX6_wins l E B g v1 v2 v10 v6 (hgn)) rfl (by omega) at_X hl.1 ⟨Nat.le_of_ble_eq_true rfl, Nat.le_of_ble_eq_true rfl⟩ ⟨Nat.le_refl _, Nat.le_refl _⟩ (rest := []) rfl (Nat.le_of_ble_eq_true rfl) dL_guesses_237 (fun H locs hJ => ?_)
                refine lv_iload hx hb dL_guesses_240 (lv_at hl 10 rfl) ?_
                refine lv_icmp_ne (tgt := 270) hx hb dL_guesses_242 (by decide) (fun c_242 => ?_) (fun c_242 => ?_)
                · skip
                  refine lv_iconst (v := 0) hx hb dL_guesses_270 (by decide) ?_
                  have hs : sL_guesses g a1 a2 a3 = 0 := hs.trans (by unfold bL_guesses_139; rw [if_pos c_143, if_pos c_148, if_pos c_153, if_neg c_222, if_neg c_227, if_neg c_242])
                  exact fin hJ (by rw [hs]) dL_guesses_271
                · skip
                  refine lv_iload hx hb dL_guesses_245 (lv_at hl 9 rfl) ?_
                  refine lv_iload hx hb dL_guesses_247 (lv_at hl 5 rfl) ?_
                  refine lv_icmp_eq (tgt := 270) hx hb dL_guesses_249 (by decide) (fun c_249 => ?_) (fun c_249 => ?_)
                  · skip
                    refine lv_iconst (v := 0) hx hb dL_guesses_270 (by decide) ?_
                    have hs : sL_guesses g a1 a2 a3 = 0 := hs.trans (by unfold bL_guesses_139; rw [if_pos c_143, if_pos c_148, if_pos c_153, if_neg c_222, if_neg c_227, if_pos c_242, if_pos c_249])
                    exact fin hJ (by rw [hs]) dL_guesses_271
                  · skip
                    have hs : sL_guesses g a1 a2 a3 = bL_guesses_252 g v5 v8 v10 v11 := hs.trans (by unfold bL_guesses_139; rw [if_pos c_143, if_pos c_148, if_pos c_153, if_neg c_222, if_neg c_227, if_pos c_242, if_neg c_249])
                    exact bk_252 v5 v8 v10 v11 _ _ _ hJ (lv_sub hl [4, 7, 9, 10] rfl) hs
  have bk_18 : ∀ (v1 : Int32) (v2 : Int32), ∀ (H : Heap) (locs : List Loc) (ls : Array Slot), JG E B s_ g H locs → lv_has ls 13 [(0, .ref (B + 0)), (1, .int v1), (2, .int v2)] → sL_guesses g a1 a2 a3 = bL_guesses_18 g v1 v2 → W P_ l e_ (rmm 4 87 0 0) s_ m_ a_ below meth cd H locs 0 0 Q (F0 m_ 18 ls []) := by
    intro v1 v2 H locs ls hJ hl hs
    refine lv_aload_n hx hb dL_guesses_18 rfl (lv_at hl 0 rfl) ?_
    refine lv_iload_n hx hb dL_guesses_19 rfl (lv_at hl 1 rfl) ?_
    refine lv_iload_n hx hb dL_guesses_20 rfl (lv_at hl 2 rfl) ?_
    refine lv_iconst (v := 0) hx hb dL_guesses_21 (by decide) ?_
    refine lv_iconst (v := 0) hx hb dL_guesses_22 (by decide) ?_
    refine kL_77 X hJ (mX6_wins l E B g v1 v2 0 0 (hgn)) rfl (by omega) at_X hl.1 ⟨Nat.le_of_ble_eq_true rfl, Nat.le_of_ble_eq_true rfl⟩ ⟨Nat.le_refl _, Nat.le_refl _⟩ (rest := []) rfl (Nat.le_of_ble_eq_true rfl) dL_guesses_23 (fun H locs hJ => ?_)
    refine lv_iconst (v := (-1)) hx hb dL_guesses_26 (by decide) ?_
    refine lv_icmp_ne (tgt := 46) hx hb dL_guesses_27 (by decide) (fun c_27 => ?_) (fun c_27 => ?_)
    · skip
      refine lv_iconst (v := 0) hx hb dL_guesses_46 (by decide) ?_
      have hs : sL_guesses g a1 a2 a3 = 0 := hs.trans (by unfold bL_guesses_18; rw [if_neg c_27])
      exact fin hJ (by rw [hs]) dL_guesses_47
    · skip
      refine lv_aload_n hx hb dL_guesses_30 rfl (lv_at hl 0 rfl) ?_
      refine lv_iload_n hx hb dL_guesses_31 rfl (lv_at hl 1 rfl) ?_
      refine lv_iload_n hx hb dL_guesses_32 rfl (lv_at hl 2 rfl) ?_
      refine lv_iconst (v := 0) hx hb dL_guesses_33 (by decide) ?_
      refine lv_iconst (v := 0) hx hb dL_guesses_34 (by decide) ?_
      refine kL_81 X hJ (mX6_bestGuess l E B g v1 v2 0 0 (hgn)) rfl (by omega) at_X hl.1 ⟨Nat.le_of_ble_eq_true rfl, Nat.le_of_ble_eq_true rfl⟩ ⟨Nat.le_refl _, Nat.le_refl _⟩ (rest := []) rfl (Nat.le_of_ble_eq_true rfl) dL_guesses_35 (fun H locs hJ => ?_)
      refine lv_iconst (v := (-1)) hx hb dL_guesses_38 (by decide) ?_
      refine lv_icmp_ne (tgt := 46) hx hb dL_guesses_39 (by decide) (fun c_39 => ?_) (fun c_39 => ?_)
      · skip
        refine lv_iconst (v := 0) hx hb dL_guesses_46 (by decide) ?_
        have hs : sL_guesses g a1 a2 a3 = 0 := hs.trans (by unfold bL_guesses_18; rw [if_pos c_27, if_neg c_39])
        exact fin hJ (by rw [hs]) dL_guesses_47
      · skip
        refine lv_iconst (v := 1) hx hb dL_guesses_42 (by decide) ?_
        refine lv_goto (tgt := 47) hx hb dL_guesses_43 (by decide) ?_
        have hs : sL_guesses g a1 a2 a3 = 1 := hs.trans (by unfold bL_guesses_18; rw [if_pos c_27, if_pos c_39])
        exact fin hJ (by rw [hs]) dL_guesses_47
  refine lv_iload_n hx hb dL_guesses_0 rfl (lv_at hl 1 rfl) ?_
  refine lv_aload_n hx hb dL_guesses_1 rfl (lv_at hl 0 rfl) ?_
  refine lv_iconst (v := 2) hx hb dL_guesses_2 (by decide) ?_
  refine kL_10 X hJ (mX6_count l E B g 2 (hgn)) rfl (by omega) at_X hl.1 ⟨Nat.le_of_ble_eq_true rfl, Nat.le_of_ble_eq_true rfl⟩ ⟨Nat.le_refl _, Nat.le_refl _⟩ (rest := [.int a1]) rfl (Nat.le_of_ble_eq_true rfl) dL_guesses_3 (fun H locs hJ => ?_)
  refine lv_icmp_ge (tgt := 18) hx hb dL_guesses_6 (by decide) (fun c_6 => ?_) (fun c_6 => ?_)
  · skip
    have hs : sL_guesses g a1 a2 a3 = bL_guesses_18 g a1 a2 := by unfold sL_guesses; rw [if_pos c_6]
    exact bk_18 a1 a2 _ _ _ hJ (lv_sub hl [0, 1, 2] rfl) hs
  · skip
    refine lv_iload_n hx hb dL_guesses_9 rfl (lv_at hl 2 rfl) ?_
    refine lv_aload_n hx hb dL_guesses_10 rfl (lv_at hl 0 rfl) ?_
    refine lv_iconst (v := 1) hx hb dL_guesses_11 (by decide) ?_
    refine kL_10 X hJ (mX6_count l E B g 1 (hgn)) rfl (by omega) at_X hl.1 ⟨Nat.le_of_ble_eq_true rfl, Nat.le_of_ble_eq_true rfl⟩ ⟨Nat.le_refl _, Nat.le_refl _⟩ (rest := [.int a2]) rfl (Nat.le_of_ble_eq_true rfl) dL_guesses_12 (fun H locs hJ => ?_)
    refine lv_icmp_lt (tgt := 48) hx hb dL_guesses_15 (by decide) (fun c_15 => ?_) (fun c_15 => ?_)
    · skip
      refine lv_aload_n hx hb dL_guesses_48 rfl (lv_at hl 0 rfl) ?_
      refine lv_iload_n hx hb dL_guesses_49 rfl (lv_at hl 2 rfl) ?_
      refine lv_iconst (v := 2) hx hb dL_guesses_50 (by decide) ?_
      refine kL_26 X hJ (mX6_ofBridge l E B g a2 2 (hgn)) rfl (by omega) at_X hl.1 ⟨Nat.le_of_ble_eq_true rfl, Nat.le_of_ble_eq_true rfl⟩ ⟨Nat.le_refl _, Nat.le_refl _⟩ (rest := []) rfl (Nat.le_of_ble_eq_true rfl) dL_guesses_51 (fun H locs hJ => ?_)
      refine lv_istore (lv' := [(4, .int (sX6_ofBridge g a2 2)), (0, .ref (B + 0)), (1, .int a1), (2, .int a2), (3, .int a3)]) hx hb dL_guesses_54 hl (by decide) rfl (fun ls hl => ?_)
      refine lv_iload_n hx hb dL_guesses_56 rfl (lv_at hl 4 rfl) ?_
      refine lv_iload hx hb dL_guesses_57 (lv_at hl 0 rfl) ?_
      refine kL_45 X hJ (mL_low l E B _ a3 (sX6_ofBridge g a2 2) (ofB2 hgn hzn)) rfl hl.1 ⟨Nat.le_of_ble_eq_true rfl, Nat.le_of_ble_eq_true rfl⟩ ⟨Nat.le_refl _, Nat.le_refl _⟩ (rest := []) rfl (Nat.le_of_ble_eq_true rfl) dL_guesses_59 (fun H locs hJ => ?_)
      refine lv_istore (lv' := [(5, .int (sL_low a3 (sX6_ofBridge g a2 2))), (4, .int (sX6_ofBridge g a2 2)), (0, .ref (B + 0)), (1, .int a1), (2, .int a2), (3, .int a3)]) hx hb dL_guesses_62 hl (by decide) rfl (fun ls hl => ?_)
      refine lv_iload_n hx hb dL_guesses_64 rfl (lv_at hl 5 rfl) ?_
      refine lv_iconst (v := 4) hx hb dL_guesses_65 (by decide) ?_
      refine lv_ishr hx hb dL_guesses_66 ?_
      refine lv_iload hx hb dL_guesses_67 (lv_at hl 1 rfl) ?_
      refine kL_45 X hJ (mL_low l E B _ (a3 >>> (4 &&& 31)) (sX6_ofBridge g a2 2) (ofB2 hgn hzn)) rfl hl.1 ⟨Nat.le_of_ble_eq_true rfl, Nat.le_of_ble_eq_true rfl⟩ ⟨Nat.le_refl _, Nat.le_refl _⟩ (rest := []) rfl (Nat.le_of_ble_eq_true rfl) dL_guesses_69 (fun H locs hJ => ?_)
      refine lv_istore (lv' := [(6, .int (sL_low (a3 >>> (4 &&& 31)) (sX6_ofBridge g a2 2))), (5, .int (sL_low a3 (sX6_ofBridge g a2 2))), (4, .int (sX6_ofBridge g a2 2)), (0, .ref (B + 0)), (1, .int a1), (2, .int a2), (3, .int a3)]) hx hb dL_guesses_72 hl (by decide) rfl (fun ls hl => ?_)
      refine lv_aload_n hx hb dL_guesses_74 rfl (lv_at hl 3 rfl) ?_
      refine lv_iload_n hx hb dL_guesses_75 rfl (lv_at hl 4 rfl) ?_
      refine lv_iload_n hx hb dL_guesses_76 rfl (lv_at hl 5 rfl) ?_
      refine lv_iconst (v := 1) hx hb dL_guesses_77 (by decide) ?_
      refine kL_35 X hJ (mX6_knows l E B g a1 a2 1 (hgn)) rfl (by omega) at_X hl.1 ⟨Nat.le_of_ble_eq_true rfl, Nat.le_of_ble_eq_true rfl⟩ ⟨Nat.le_refl _, Nat.le_refl _⟩ (rest := []) rfl (Nat.le_of_ble_eq_true rfl) dL_guesses_78 (fun H locs hJ => ?_)
      refine lv_aload_n hx hb dL_guesses_81 rfl (lv_at hl 3 rfl) ?_
      refine lv_iload_n hx hb dL_guesses_82 rfl (lv_at hl 4 rfl) ?_
      refine lv_iload_n hx hb dL_guesses_83 rfl (lv_at hl 5 rfl) ?_
      refine lv_iconst (v := 0) hx hb dL_guesses_84 (by decide) ?_
      refine kL_35 X hJ (mX6_knows l E B g a1 a2 0 (hgn)) rfl (by omega) at_X hl.1 ⟨Nat.le_of_ble_eq_true rfl, Nat.le_of_ble_eq_true rfl⟩ ⟨Nat.le_refl _, Nat.le_refl _⟩ (rest := [.int (sX6_knows g a1 a2 1)]) rfl (Nat.le_of_ble_eq_true rfl) dL_guesses_85 (fun H locs hJ => ?_)
      refine lv_isub hx hb dL_guesses_88 ?_
      refine lv_iconst (v := 1) hx hb dL_guesses_89 (by decide) ?_
      refine lv_iadd hx hb dL_guesses_90 ?_
      refine lv_istore (lv' := [(7, .int (((sX6_knows g a1 a2 1) - (sX6_knows g a1 a2 0)) + 1)), (6, .int (sL_low (a3 >>> (4 &&& 31)) (sX6_ofBridge g a2 2))), (5, .int (sL_low a3 (sX6_ofBridge g a2 2))), (4, .int (sX6_ofBridge g a2 2)), (0, .ref (B + 0)), (1, .int a1), (2, .int a2), (3, .int a3)]) hx hb dL_guesses_91 hl (by decide) rfl (fun ls hl => ?_)
      refine lv_aload_n hx hb dL_guesses_93 rfl (lv_at hl 4 rfl) ?_
      refine lv_iload_n hx hb dL_guesses_94 rfl (lv_at hl 5 rfl) ?_
      refine lv_iload_n hx hb dL_guesses_95 rfl (lv_at hl 6 rfl) ?_
      refine lv_iload hx hb dL_guesses_96 (lv_at hl 2 rfl) ?_
      refine lv_iload hx hb dL_guesses_98 (lv_at hl 1 rfl) ?_
      refine kL_77 X hJ (mX6_wins l E B g a1 a2 (sL_low a3 (sX6_ofBridge g a2 2)) (sL_low (a3 >>> (4 &&& 31)) (sX6_ofBridge g a2 2)) (hgn)) rfl (by omega) at_X hl.1 ⟨Nat.le_of_ble_eq_true rfl, Nat.le_of_ble_eq_true rfl⟩ ⟨Nat.le_refl _, Nat.le_refl _⟩ (rest := []) rfl (Nat.le_of_ble_eq_true rfl) dL_guesses_100 (fun H locs hJ => ?_)
      refine lv_istore (lv' := [(8, .int (sX6_wins g a1 a2 (sL_low a3 (sX6_ofBridge g a2 2)) (sL_low (a3 >>> (4 &&& 31)) (sX6_ofBridge g a2 2)))), (7, .int (((sX6_knows g a1 a2 1) - (sX6_knows g a1 a2 0)) + 1)), (6, .int (sL_low (a3 >>> (4 &&& 31)) (sX6_ofBridge g a2 2))), (5, .int (sL_low a3 (sX6_ofBridge g a2 2))), (4, .int (sX6_ofBridge g a2 2)), (0, .ref (B + 0)), (1, .int a1), (2, .int a2), (3, .int a3)]) hx hb dL_guesses_103 hl (by decide) rfl (fun ls hl => ?_)
      refine lv_aload_n hx hb dL_guesses_105 rfl (lv_at hl 5 rfl) ?_
      refine lv_iload_n hx hb dL_guesses_106 rfl (lv_at hl 6 rfl) ?_
      refine lv_iload_n hx hb dL_guesses_107 rfl (lv_at hl 7 rfl) ?_
      refine lv_iload hx hb dL_guesses_108 (lv_at hl 2 rfl) ?_
      refine lv_iload hx hb dL_guesses_110 (lv_at hl 3 rfl) ?_
      refine kL_77 X hJ (mX6_wins l E B g a1 a2 (sL_low (a3 >>> (4 &&& 31)) (sX6_ofBridge g a2 2)) (sL_low a3 (sX6_ofBridge g a2 2)) (hgn)) rfl (by omega) at_X hl.1 ⟨Nat.le_of_ble_eq_true rfl, Nat.le_of_ble_eq_true rfl⟩ ⟨Nat.le_refl _, Nat.le_refl _⟩ (rest := []) rfl (Nat.le_of_ble_eq_true rfl) dL_guesses_112 (fun H locs hJ => ?_)
      refine lv_istore (lv' := [(9, .int (sX6_wins g a1 a2 (sL_low (a3 >>> (4 &&& 31)) (sX6_ofBridge g a2 2)) (sL_low a3 (sX6_ofBridge g a2 2)))), (8, .int (sX6_wins g a1 a2 (sL_low a3 (sX6_ofBridge g a2 2)) (sL_low (a3 >>> (4 &&& 31)) (sX6_ofBridge g a2 2)))), (7, .int (((sX6_knows g a1 a2 1) - (sX6_knows g a1 a2 0)) + 1)), (6, .int (sL_low (a3 >>> (4 &&& 31)) (sX6_ofBridge g a2 2))), (5, .int (sL_low a3 (sX6_ofBridge g a2 2))), (4, .int (sX6_ofBridge g a2 2)), (0, .ref (B + 0)), (1, .int a1), (2, .int a2), (3, .int a3)]) hx hb dL_guesses_115 hl (by decide) rfl (fun ls hl => ?_)
      refine lv_aload_n hx hb dL_guesses_117 rfl (lv_at hl 6 rfl) ?_
      refine lv_iload_n hx hb dL_guesses_118 rfl (lv_at hl 7 rfl) ?_
      refine lv_iload_n hx hb dL_guesses_119 rfl (lv_at hl 8 rfl) ?_
      refine lv_iload hx hb dL_guesses_120 (lv_at hl 3 rfl) ?_
      refine lv_iconst (v := 0) hx hb dL_guesses_122 (by decide) ?_
      refine kL_81 X hJ (mX6_bestGuess l E B g a1 a2 (sL_low (a3 >>> (4 &&& 31)) (sX6_ofBridge g a2 2)) 0 (hgn)) rfl (by omega) at_X hl.1 ⟨Nat.le_of_ble_eq_true rfl, Nat.le_of_ble_eq_true rfl⟩ ⟨Nat.le_refl _, Nat.le_refl _⟩ (rest := []) rfl (Nat.le_of_ble_eq_true rfl) dL_guesses_123 (fun H locs hJ => ?_)
      refine lv_istore (lv' := [(10, .int (sX6_bestGuess g a1 a2 (sL_low (a3 >>> (4 &&& 31)) (sX6_ofBridge g a2 2)) 0)), (9, .int (sX6_wins g a1 a2 (sL_low (a3 >>> (4 &&& 31)) (sX6_ofBridge g a2 2)) (sL_low a3 (sX6_ofBridge g a2 2)))), (8, .int (sX6_wins g a1 a2 (sL_low a3 (sX6_ofBridge g a2 2)) (sL_low (a3 >>> (4 &&& 31)) (sX6_ofBridge g a2 2)))), (7, .int (((sX6_knows g a1 a2 1) - (sX6_knows g a1 a2 0)) + 1)), (6, .int (sL_low (a3 >>> (4 &&& 31)) (sX6_ofBridge g a2 2))), (5, .int (sL_low a3 (sX6_ofBridge g a2 2))), (4, .int (sX6_ofBridge g a2 2)), (0, .ref (B + 0)), (1, .int a1), (2, .int a2), (3, .int a3)]) hx hb dL_guesses_126 hl (by decide) rfl (fun ls hl => ?_)
      refine lv_aload_n hx hb dL_guesses_128 rfl (lv_at hl 7 rfl) ?_
      refine lv_iload_n hx hb dL_guesses_129 rfl (lv_at hl 8 rfl) ?_
      refine lv_iload_n hx hb dL_guesses_130 rfl (lv_at hl 9 rfl) ?_
      refine lv_iload hx hb dL_guesses_131 (lv_at hl 4 rfl) ?_
      refine lv_iconst (v := 1) hx hb dL_guesses_133 (by decide) ?_
      refine kL_81 X hJ (mX6_bestGuess l E B g a1 a2 (sL_low (a3 >>> (4 &&& 31)) (sX6_ofBridge g a2 2)) 1 (hgn)) rfl (by omega) at_X hl.1 ⟨Nat.le_of_ble_eq_true rfl, Nat.le_of_ble_eq_true rfl⟩ ⟨Nat.le_refl _, Nat.le_refl _⟩ (rest := []) rfl (Nat.le_of_ble_eq_true rfl) dL_guesses_134 (fun H locs hJ => ?_)
      refine lv_istore (lv' := [(11, .int (sX6_bestGuess g a1 a2 (sL_low (a3 >>> (4 &&& 31)) (sX6_ofBridge g a2 2)) 1)), (10, .int (sX6_bestGuess g a1 a2 (sL_low (a3 >>> (4 &&& 31)) (sX6_ofBridge g a2 2)) 0)), (9, .int (sX6_wins g a1 a2 (sL_low (a3 >>> (4 &&& 31)) (sX6_ofBridge g a2 2)) (sL_low a3 (sX6_ofBridge g a2 2)))), (8, .int (sX6_wins g a1 a2 (sL_low a3 (sX6_ofBridge g a2 2)) (sL_low (a3 >>> (4 &&& 31)) (sX6_ofBridge g a2 2)))), (7, .int (((sX6_knows g a1 a2 1) - (sX6_knows g a1 a2 0)) + 1)), (6, .int (sL_low (a3 >>> (4 &&& 31)) (sX6_ofBridge g a2 2))), (5, .int (sL_low a3 (sX6_ofBridge g a2 2))), (4, .int (sX6_ofBridge g a2 2)), (0, .ref (B + 0)), (1, .int a1), (2, .int a2), (3, .int a3)]) hx hb dL_guesses_137 hl (by decide) rfl (fun ls hl => ?_)
      have hs : sL_guesses g a1 a2 a3 = bL_guesses_139 g a1 a2 (sL_low a3 (sX6_ofBridge g a2 2)) (sL_low (a3 >>> (4 &&& 31)) (sX6_ofBridge g a2 2)) (((sX6_knows g a1 a2 1) - (sX6_knows g a1 a2 0)) + 1) (sX6_wins g a1 a2 (sL_low a3 (sX6_ofBridge g a2 2)) (sL_low (a3 >>> (4 &&& 31)) (sX6_ofBridge g a2 2))) (sX6_wins g a1 a2 (sL_low (a3 >>> (4 &&& 31)) (sX6_ofBridge g a2 2)) (sL_low a3 (sX6_ofBridge g a2 2))) (sX6_bestGuess g a1 a2 (sL_low (a3 >>> (4 &&& 31)) (sX6_ofBridge g a2 2)) 0) (sX6_bestGuess g a1 a2 (sL_low (a3 >>> (4 &&& 31)) (sX6_ofBridge g a2 2)) 1) := by unfold sL_guesses; rw [if_neg c_6, if_pos c_15]
      exact bk_139 a1 a2 (sL_low a3 (sX6_ofBridge g a2 2)) (sL_low (a3 >>> (4 &&& 31)) (sX6_ofBridge g a2 2)) (((sX6_knows g a1 a2 1) - (sX6_knows g a1 a2 0)) + 1) (sX6_wins g a1 a2 (sL_low a3 (sX6_ofBridge g a2 2)) (sL_low (a3 >>> (4 &&& 31)) (sX6_ofBridge g a2 2))) (sX6_wins g a1 a2 (sL_low (a3 >>> (4 &&& 31)) (sX6_ofBridge g a2 2)) (sL_low a3 (sX6_ofBridge g a2 2))) (sX6_bestGuess g a1 a2 (sL_low (a3 >>> (4 &&& 31)) (sX6_ofBridge g a2 2)) 0) (sX6_bestGuess g a1 a2 (sL_low (a3 >>> (4 &&& 31)) (sX6_ofBridge g a2 2)) 1) _ _ _ hJ (lv_sub hl [8, 9, 10, 6, 5, 4, 3, 2, 1, 0] rfl) hs
    · skip
      have hs : sL_guesses g a1 a2 a3 = bL_guesses_18 g a1 a2 := by unfold sL_guesses; rw [if_neg c_6, if_neg c_15]
      exact bk_18 a1 a2 _ _ _ hJ (lv_sub hl [0, 1, 2] rfl) hs
