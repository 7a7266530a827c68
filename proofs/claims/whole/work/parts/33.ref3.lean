theorem Rn_stops {w : Row} {c : Nat} (hc : c < 8) (h : Rn w) : Rn (sX7_stopsWaiting w c) := by
  have key : ∀ (n : Nat) (w : Row) (z p : Nat), p ≤ 8 → z ≤ p → Rn w → Rn (bX7_stopsWaiting_41 c n w z p) := by
    intro n
    induction n with
    | zero => intro w z p _ _ h; exact h
    | succ n ih =>
      intro w z p hp hz h
      rw [bX7_stopsWaiting_41]
      by_cases h1 : w (10) ≤ nI p
      · rw [if_pos h1]; exact Rn_10 (sm_nI (by omega) (by omega)) h
      · rw [if_neg h1]
        have hp2 := h.1.lt10 (by omega) h1
        have h2 := Rn_q (show z < 8 by omega) (h.2.1 p (by omega)) h
        split
        · exact ih _ _ _ (by omega) (by omega) h2
        · exact ih _ _ _ (by omega) (by omega) h2
  unfold sX7_stopsWaiting
  exact key _ _ _ _ (by omega) (by omega) (Rn_upd (by unfold bad; omega) (Rn_upd (by unfold bad; omega) (Rn_upd (by unfold bad; omega) h)))
theorem Nz_stops {i : Nat} {w : Row} {c : Nat} (hc : c < 8) (hi : i < 12) (hcn : Rn w) (h : Nz i w) : Nz i (sX7_stopsWaiting w c) := by
  have key : ∀ (n : Nat) (w : Row) (z p : Nat), p ≤ 8 → z ≤ p → Rn w → Nz i w → Nz i (bX7_stopsWaiting_41 c n w z p) := by
    intro n
    induction n with
    | zero => intro w z p _ _ _ h; exact h
    | succ n ih =>
      intro w z p hp hz hr h
      rw [bX7_stopsWaiting_41]
      by_cases h1 : w (10) ≤ nI p
      · rw [if_pos h1]; exact Nz_upd (by omega) h
      · rw [if_neg h1]
        have hp2 := hr.1.lt10 (by omega) h1
        have h2 := Rn_q (show z < 8 by omega) (hr.2.1 p (by omega)) hr
        split
        · exact ih _ _ _ (by omega) (by omega) h2 (Nz_upd (by omega) h)
        · exact ih _ _ _ (by omega) (by omega) h2 (Nz_upd (by omega) h)
  unfold sX7_stopsWaiting
  exact key _ _ _ _ (by omega) (by omega) (Rn_upd (by unfold bad; omega) (Rn_upd (by unfold bad; omega) (Rn_upd (by unfold bad; omega) hcn))) (Nz_upd (by omega) (Nz_upd (by omega) (Nz_upd (by omega) h)))
theorem Rn_draws {w : Row} {i : Nat} (hi : i < 12) (h : Rn w) : Rn (sX7_draws w i) := by
  have key : ∀ (n : Nat) (w : Row) (p : Nat), p ≤ 8 → Rn w → Rn (bX7_draws_64 i n w p) := by
    intro n
    induction n with
    | zero => intro w p _ h; exact h
    | succ n ih =>
      intro w p hp h
      rw [bX7_draws_64]
      by_cases h1 : 8 ≤ nI p
      · rw [if_pos h1]; exact h
      · rw [if_neg h1]
        have := lit_lt (n := 8) h1 (by omega) (by omega)
        exact ih _ _ (by omega) (Rn_upd (by unfold bad; omega) (Rn_upd (by unfold bad; omega) h))
  unfold sX7_draws
  exact key _ _ _ (by omega) (Rn_upd (by unfold bad; omega) (Rn_upd (by unfold bad; omega) h))
theorem comer_cases {w : Row} {i : Nat} (hrn : Rn w) : sX7_comer w i = -6 ∨ ∃ c, c < 8 ∧ sX7_comer w i = nI c ∧ w (104 + 8 * c + 2) = nI i := by
  unfold sX7_comer bX7_comer_123
  by_cases h0 : sX7_waiter w i 0 = -6
  · rw [if_pos h0]; exact Or.inl rfl
  rw [if_neg h0]
  have a := wt0 hrn h0
  by_cases h1 : sX7_waiter w i 1 = -6
  · rw [if_pos h1]
    split
    · exact Or.inl rfl
    · exact Or.inr ⟨_, a.2.1, rfl, a.2.2⟩
  rw [if_neg h1]
  have b := wt1 hrn h1
  repeat' split
  all_goals first | exact Or.inl rfl | exact Or.inr ⟨_, a.2.1, rfl, a.2.2⟩ | exact Or.inr ⟨_, b.2.1, rfl, b.2.2⟩
theorem comer_cm {w : Row} {i : Nat} (hrn : Rn w) : sX7_comer w i = -6 ∨ sm (sX7_comer w i) 7 := by
  rcases comer_cases (i := i) hrn with h | ⟨c, h1, h2, -⟩
  · exact Or.inl h
  · exact Or.inr (by rw [h2]; exact sm_nI (by omega) (by omega))
def bX7_opens_286  (i : Nat) (w286 : Row) (c : Nat) : Int32 × Row := (1, (sX7_draws (sX7_stopsWaiting (upd (upd w286 (104 + 8 * c + 5) ((w286 (104 + 8 * c + 5)) + 1)) (20 + 7 * i + 5) (((upd w286 (104 + 8 * c + 5) ((w286 (104 + 8 * c + 5)) + 1)) (20 + 7 * i + 5)) + 1)) c) i))
def bX7_opens_246  (i : Nat) (w246 : Row) (c : Nat) : Int32 × Row := if w246 (20 + 7 * i) = w246 (104 + 8 * c) then (bX7_opens_286 i (upd w246 (104 + 8 * c) (w246 (20 + 7 * i + 1))) c) else (bX7_opens_286 i (upd w246 (104 + 8 * c) (w246 (20 + 7 * i))) c)
def bX7_opens_204  (i : Nat) (w204 : Row) (c : Nat) (gf : Int32) : Int32 × Row := bX7_opens_246 i (upd (upd (upd w204 (20 + 7 * i + 4) ((w204 (20 + 7 * i + 4)) - gf)) (104 + 8 * c + 1) (((upd w204 (20 + 7 * i + 4) ((w204 (20 + 7 * i + 4)) - gf)) (104 + 8 * c + 1)) + gf)) (104 + 8 * c + 7) (((upd (upd w204 (20 + 7 * i + 4) ((w204 (20 + 7 * i + 4)) - gf)) (104 + 8 * c + 1) (((upd w204 (20 + 7 * i + 4) ((w204 (20 + 7 * i + 4)) - gf)) (104 + 8 * c + 1)) + gf)) (104 + 8 * c + 7)) + gf)) c
def bX7_opens_144  (i : Nat) (w144 : Row) (c : Nat) : Int32 × Row := if w144 (104 + 8 * c + 3) = w144 (20 + 7 * i + 3) then (if w144 (2) ≤ w144 (20 + 7 * i + 4) then (bX7_opens_204 i w144 c (w144 (2))) else (bX7_opens_204 i w144 c (w144 (20 + 7 * i + 4)))) else (bX7_opens_246 i w144 c)
def bX7_opens_120  (i : Nat) (w120 : Row) (nr : Int32) (c : Nat) (al : Int32) (br : Int32) : Int32 × Row := if al = 0 then (if nr = 0 then (bX7_opens_144 i (sX7_pays w120 c i 0) c) else (bX7_opens_144 i (sX7_pays w120 c i br) c)) else (bX7_opens_144 i (sX7_pays w120 c i br) c)
def bX7_opens_78  (i : Nat) (w78 : Row) (nr : Int32) (c : Nat) (al : Int32) : Int32 × Row := if w78 (0) ≤ w78 (104 + 8 * c + 1) then (bX7_opens_120 i w78 nr c al (w78 (0))) else (bX7_opens_120 i w78 nr c al (w78 (104 + 8 * c + 1)))
def bX7_opens_44  (i : Nat) (w44 : Row) (nr : Int32) (cm : Int32) : Int32 × Row := if cm = (-6) then ((0, w44)) else (if sX7_many w44 i = 1 then (bX7_opens_78 i w44 nr (nn cm) 1) else (bX7_opens_78 i w44 nr (nn cm) 0))
def sX7_opens (w : Row) (i : Nat) : Int32 × Row := if sX7_areAsNear w i = 0 then (bX7_opens_44 i (upd w (20 + 7 * i + 6) ((w (20 + 7 * i + 6)) + 0)) (sX7_areAsNear w i) (sX7_comer w i)) else (bX7_opens_44 i (upd w (20 + 7 * i + 6) ((w (20 + 7 * i + 6)) + 1)) (sX7_areAsNear w i) (sX7_comer w i))
theorem b01_o286 {i : Nat} {w : Row} {c : Nat} : b01 (bX7_opens_286 i w c).1 := Or.inr rfl
theorem b01_o246 {i : Nat} {w : Row} {c : Nat} : b01 (bX7_opens_246 i w c).1 := b01_i2 b01_o286 b01_o286
theorem b01_o144 {i : Nat} {w : Row} {c : Nat} : b01 (bX7_opens_144 i w c).1 := b01_i2 (b01_i2 b01_o246 b01_o246) b01_o246
theorem b01_o120 {i : Nat} {w : Row} {nr : Int32} {c : Nat} {al br : Int32} : b01 (bX7_opens_120 i w nr c al br).1 := b01_i2 (b01_i2 b01_o144 b01_o144) b01_o144
theorem b01_o78 {i : Nat} {w : Row} {nr : Int32} {c : Nat} {al : Int32} : b01 (bX7_opens_78 i w nr c al).1 := b01_i2 b01_o120 b01_o120
theorem b01_o44 {i : Nat} {w : Row} {nr cm : Int32} : b01 (bX7_opens_44 i w nr cm).1 := b01_i2 (Or.inl rfl) (b01_i2 b01_o78 b01_o78)
theorem b01_opens {w : Row} {i : Nat} : b01 (sX7_opens w i).1 := b01_i2 b01_o44 b01_o44
set_option maxHeartbeats 4000000 in
set_option maxRecDepth 100000 in
theorem mX7_opens (l : Launch) (E : EE) (B : Nat) (g : GS) (t : Nat) (i : Nat) (w : Row) (ht : t < 10) (hi : i < 12) (hrn : Rn w) (hnz : Nz i w) : CG l yX7_opens cX7_opens 10 (some .boolean) 4 96 E B [.ref (B + 459), .int (nI (360 * t)), .int (nI i)] (upS g t w) (some (.int (sX7_opens w i).1)) (upS g t ((sX7_opens w i).2)) := by
  refine mkI (own := RX7) (ty := .boolean) rfl (by decide) rfl (b01_opens.nar) (Nat.le_of_ble_eq_true rfl) (fun P_ e_ s_ m_ a_ below meth cd Q X fin ls hl hJ => ?_)
  have hx := X.1
  have hb := X.2.1
  have hl : lv_has ls 10 [(0, .ref (B + 459)), (1, .int (nI (360 * t))), (2, .int (nI i))] := hl
  have bk_286 : ∀  (w286 : Row)  (c : Nat), (Rn w286) → (Nz i w286) → (c < 8) → ∀ (H : Heap) (locs : List Loc) (ls : Array Slot), JG E B s_ (upS g t w286) H locs → lv_has ls 10 [(0, .ref (B + 459)), (1, .int (nI (360 * t))), (2, .int (nI i)), (3, .int (nI (360 * t + (20 + 7 * i)))), (5, .int (nI c)), (6, .int (nI (360 * t + (104 + 8 * c))))] → sX7_opens w i = bX7_opens_286 i w286 c → W P_ l e_ (rmm 4 96 0 0) s_ m_ a_ below meth cd H locs 0 0 Q (F0 m_ 286 ls []) := by
    intro w286 c hrn hnz hc H locs ls hJ hl hs
    refine lv_aload_n hx hb dX7_opens_286 rfl (lv_at hl 0 rfl) ?_
    refine gX7_7 X hJ (w := g.2.2.2) rfl dX7_opens_287 ?_
    refine lv_iload hx hb dX7_opens_290 (lv_at hl 5 rfl) ?_
    refine lv_iconst (v := 5) hx hb dX7_opens_292 (by decide) ?_
    refine xiadd (z := nI (360 * t + (104 + 8 * c + 5))) hx hb dX7_opens_293 (nI_a3 t (104 + 8 * c) 5) ?_
    refine lv_dup2_11 hx hb dX7_opens_294 rfl rfl ?_
    refine ld_s X hJ (t := t) (w := w286) (by omega) upS_1 (j := 104 + 8 * c + 5) (rfl) (by omega) dX7_opens_295 ?_
    refine lv_iconst (v := 1) hx hb dX7_opens_296 (by decide) ?_
    refine lv_iadd hx hb dX7_opens_297 ?_
    refine st_s X (t := t) hJ (by omega) (j := 104 + 8 * c + 5) (rfl) (by omega) dX7_opens_298 (fun H locs hJ => ?_)
    refine lv_aload_n hx hb dX7_opens_299 rfl (lv_at hl 0 rfl) ?_
    refine gX7_7 X hJ (w := g.2.2.2) rfl dX7_opens_300 ?_
    refine lv_iload_n hx hb dX7_opens_303 rfl (lv_at hl 3 rfl) ?_
    refine lv_iconst (v := 5) hx hb dX7_opens_304 (by decide) ?_
    refine xiadd (z := nI (360 * t + (20 + 7 * i + 5))) hx hb dX7_opens_305 (nI_a3 t (20 + 7 * i) 5) ?_
    refine lv_dup2_11 hx hb dX7_opens_306 rfl rfl ?_
    refine ld_s X hJ (t := t) (w := upd w286 (104 + 8 * c + 5) ((w286 (104 + 8 * c + 5)) + 1)) (by omega) upS_1 (j := 20 + 7 * i + 5) (rfl) (by omega) dX7_opens_307 ?_
    refine lv_iconst (v := 1) hx hb dX7_opens_308 (by decide) ?_
    refine lv_iadd hx hb dX7_opens_309 ?_
    refine st_s X (t := t) hJ (by omega) (j := 20 + 7 * i + 5) (rfl) (by omega) dX7_opens_310 (fun H locs hJ => ?_)
    refine lv_aload_n hx hb dX7_opens_311 rfl (lv_at hl 0 rfl) ?_
    refine lv_iload_n hx hb dX7_opens_312 rfl (lv_at hl 1 rfl) ?_
    refine lv_iload hx hb dX7_opens_313 (lv_at hl 4 rfl) ?_
    refine kX7_67 X hJ (mX7_stopsWaiting l E B _ t c (upd (upd w286 (104 + 8 * c + 5) ((w286 (104 + 8 * c + 5)) + 1)) (20 + 7 * i + 5) (((upd w286 (104 + 8 * c + 5) ((w286 (104 + 8 * c + 5)) + 1)) (20 + 7 * i + 5)) + 1)) (by omega) (by omega) (Rn_upd (by unfold bad; omega) (Rn_upd (by unfold bad; omega) (hrn)))) rfl (by omega) (at_M rfl) hl.1 ⟨Nat.le_of_ble_eq_true rfl, Nat.le_of_ble_eq_true rfl⟩ ⟨Nat.le_refl _, Nat.le_refl _⟩ (rest := []) rfl (Nat.le_of_ble_eq_true rfl) dX7_opens_315 (fun H locs hJ => ?_)
    refine lv_aload_n hx hb dX7_opens_318 rfl (lv_at hl 0 rfl) ?_
    refine lv_iload_n hx hb dX7_opens_319 rfl (lv_at hl 1 rfl) ?_
    refine lv_iload_n hx hb dX7_opens_320 rfl (lv_at hl 2 rfl) ?_
    refine kX7_70 X hJ (mX7_draws l E B _ t i (sX7_stopsWaiting (upd (upd w286 (104 + 8 * c + 5) ((w286 (104 + 8 * c + 5)) + 1)) (20 + 7 * i + 5) (((upd w286 (104 + 8 * c + 5) ((w286 (104 + 8 * c + 5)) + 1)) (20 + 7 * i + 5)) + 1)) c) (by omega) (by omega) (Nz_stops (by omega) (by omega) (Rn_upd (by unfold bad; omega) (Rn_upd (by unfold bad; omega) (hrn))) (Nz_upd (by omega) (Nz_upd (by omega) (hnz))))) rfl (by omega) (at_M rfl) hl.1 ⟨Nat.le_of_ble_eq_true rfl, Nat.le_of_ble_eq_true rfl⟩ ⟨Nat.le_refl _, Nat.le_refl _⟩ (rest := []) rfl (Nat.le_of_ble_eq_true rfl) dX7_opens_321 (fun H locs hJ => ?_)
    refine lv_iconst (v := 1) hx hb dX7_opens_324 (by decide) ?_
    have hs : sX7_opens w i = (1, (sX7_draws (sX7_stopsWaiting (upd (upd w286 (104 + 8 * c + 5) ((w286 (104 + 8 * c + 5)) + 1)) (20 + 7 * i + 5) (((upd w286 (104 + 8 * c + 5) ((w286 (104 + 8 * c + 5)) + 1)) (20 + 7 * i + 5)) + 1)) c) i)) := hs.trans (by unfold bX7_opens_286; rfl)
    exact fin (by rw [hs]; dsimp only; exact hJ) (by rw [hs]) dX7_opens_325
  have bk_246 : ∀  (w246 : Row)  (c : Nat), (Rn w246) → (Nz i w246) → (c < 8) → ∀ (H : Heap) (locs : List Loc) (ls : Array Slot), JG E B s_ (upS g t w246) H locs → lv_has ls 10 [(0, .ref (B + 459)), (1, .int (nI (360 * t))), (2, .int (nI i)), (3, .int (nI (360 * t + (20 + 7 * i)))), (5, .int (nI c)), (6, .int (nI (360 * t + (104 + 8 * c))))] → sX7_opens w i = bX7_opens_246 i w246 c → W P_ l e_ (rmm 4 96 0 0) s_ m_ a_ below meth cd H locs 0 0 Q (F0 m_ 246 ls []) := by
    intro w246 c hrn hnz hc H locs ls hJ hl hs
    refine lv_aload_n hx hb dX7_opens_246 rfl (lv_at hl 0 rfl) ?_
    refine gX7_7 X hJ (w := g.2.2.2) rfl dX7_opens_247 ?_
    refine lv_iload hx hb dX7_opens_250 (lv_at hl 5 rfl) ?_
    refine lv_aload_n hx hb dX7_opens_252 rfl (lv_at hl 0 rfl) ?_
    refine gX7_7 X hJ (w := g.2.2.2) rfl dX7_opens_253 ?_
    refine lv_iload_n hx hb dX7_opens_256 rfl (lv_at hl 3 rfl) ?_
    refine ld_s X hJ (t := t) (w := w246) (by omega) upS_1 (j := 20 + 7 * i) (rfl) (by omega) dX7_opens_257 ?_
    refine lv_aload_n hx hb dX7_opens_258 rfl (lv_at hl 0 rfl) ?_
    refine gX7_7 X hJ (w := g.2.2.2) rfl dX7_opens_259 ?_
    refine lv_iload hx hb dX7_opens_262 (lv_at hl 5 rfl) ?_
    refine ld_s X hJ (t := t) (w := w246) (by omega) upS_1 (j := 104 + 8 * c) (rfl) (by omega) dX7_opens_264 ?_
    refine lv_icmp_ne (tgt := 279) hx hb dX7_opens_265 (by decide) (fun c_265 => ?_) (fun c_265 => ?_)
    · skip
      refine lv_aload_n hx hb dX7_opens_279 rfl (lv_at hl 0 rfl) ?_
      refine gX7_7 X hJ (w := g.2.2.2) rfl dX7_opens_280 ?_
      refine lv_iload_n hx hb dX7_opens_283 rfl (lv_at hl 3 rfl) ?_
      refine ld_s X hJ (t := t) (w := w246) (by omega) upS_1 (j := 20 + 7 * i) (rfl) (by omega) dX7_opens_284 ?_
      refine st_s X (t := t) hJ (by omega) (j := 104 + 8 * c) (rfl) (by omega) dX7_opens_285 (fun H locs hJ => ?_)
      have hs : sX7_opens w i = bX7_opens_286 i (upd w246 (104 + 8 * c) (w246 (20 + 7 * i))) c := hs.trans (by unfold bX7_opens_246; rw [if_neg c_265])
      exact bk_286 (upd w246 (104 + 8 * c) (w246 (20 + 7 * i))) c (Rn_upd (by unfold bad; omega) (hrn)) (Nz_upd (by omega) (hnz)) (by omega) _ _ _ hJ (lv_sub hl [0, 1, 2, 3, 4, 5] rfl) hs
    · skip
      refine lv_aload_n hx hb dX7_opens_268 rfl (lv_at hl 0 rfl) ?_
      refine gX7_7 X hJ (w := g.2.2.2) rfl dX7_opens_269 ?_
      refine lv_iload_n hx hb dX7_opens_272 rfl (lv_at hl 3 rfl) ?_
      refine lv_iconst (v := 1) hx hb dX7_opens_273 (by decide) ?_
      refine xiadd (z := nI (360 * t + (20 + 7 * i + 1))) hx hb dX7_opens_274 (nI_a3 t (20 + 7 * i) 1) ?_
      refine ld_s X hJ (t := t) (w := w246) (by omega) upS_1 (j := 20 + 7 * i + 1) (rfl) (by omega) dX7_opens_275 ?_
      refine lv_goto (tgt := 285) hx hb dX7_opens_276 (by decide) ?_
      refine st_s X (t := t) hJ (by omega) (j := 104 + 8 * c) (rfl) (by omega) dX7_opens_285 (fun H locs hJ => ?_)
      have hs : sX7_opens w i = bX7_opens_286 i (upd w246 (104 + 8 * c) (w246 (20 + 7 * i + 1))) c := hs.trans (by unfold bX7_opens_246; rw [if_pos c_265])
      exact bk_286 (upd w246 (104 + 8 * c) (w246 (20 + 7 * i + 1))) c (Rn_upd (by unfold bad; omega) (hrn)) (Nz_upd (by omega) (hnz)) (by omega) _ _ _ hJ (lv_sub hl [0, 1, 2, 3, 4, 5] rfl) hs
  have bk_204 : ∀  (w204 : Row)  (c : Nat)  (gf : Int32), (Rn w204) → (Nz i w204) → (c < 8) → ∀ (H : Heap) (locs : List Loc) (ls : Array Slot), JG E B s_ (upS g t w204) H locs → lv_has ls 10 [(0, .ref (B + 459)), (1, .int (nI (360 * t))), (2, .int (nI i)), (3, .int (nI (360 * t + (20 + 7 * i)))), (5, .int (nI c)), (6, .int (nI (360 * t + (104 + 8 * c)))), (9, .int gf)] → sX7_opens w i = bX7_opens_204 i w204 c gf → W P_ l e_ (rmm 4 96 0 0) s_ m_ a_ below meth cd H locs 0 0 Q (F0 m_ 204 ls []) := by
    intro w204 c gf hrn hnz hc H locs ls hJ hl hs
    refine lv_aload_n hx hb dX7_opens_204 rfl (lv_at hl 0 rfl) ?_
    refine gX7_7 X hJ (w := g.2.2.2) rfl dX7_opens_205 ?_
    refine lv_iload_n hx hb dX7_opens_208 rfl (lv_at hl 3 rfl) ?_
    refine lv_iconst (v := 4) hx hb dX7_opens_209 (by decide) ?_
    refine xiadd (z := nI (360 * t + (20 + 7 * i + 4))) hx hb dX7_opens_210 (nI_a3 t (20 + 7 * i) 4) ?_
    refine lv_dup2_11 hx hb dX7_opens_211 rfl rfl ?_
    refine ld_s X hJ (t := t) (w := w204) (by omega) upS_1 (j := 20 + 7 * i + 4) (rfl) (by omega) dX7_opens_212 ?_
    refine lv_iload hx hb dX7_opens_213 (lv_at hl 6 rfl) ?_
    refine lv_isub hx hb dX7_opens_215 ?_
    refine st_s X (t := t) hJ (by omega) (j := 20 + 7 * i + 4) (rfl) (by omega) dX7_opens_216 (fun H locs hJ => ?_)
    refine lv_aload_n hx hb dX7_opens_217 rfl (lv_at hl 0 rfl) ?_
    refine gX7_7 X hJ (w := g.2.2.2) rfl dX7_opens_218 ?_
    refine lv_iload hx hb dX7_opens_221 (lv_at hl 5 rfl) ?_
    refine lv_iconst (v := 1) hx hb dX7_opens_223 (by decide) ?_
    refine xiadd (z := nI (360 * t + (104 + 8 * c + 1))) hx hb dX7_opens_224 (nI_a3 t (104 + 8 * c) 1) ?_
    refine lv_dup2_11 hx hb dX7_opens_225 rfl rfl ?_
    refine ld_s X hJ (t := t) (w := upd w204 (20 + 7 * i + 4) ((w204 (20 + 7 * i + 4)) - gf)) (by omega) upS_1 (j := 104 + 8 * c + 1) (rfl) (by omega) dX7_opens_226 ?_
    refine lv_iload hx hb dX7_opens_227 (lv_at hl 6 rfl) ?_
    refine lv_iadd hx hb dX7_opens_229 ?_
    refine st_s X (t := t) hJ (by omega) (j := 104 + 8 * c + 1) (rfl) (by omega) dX7_opens_230 (fun H locs hJ => ?_)
    refine lv_aload_n hx hb dX7_opens_231 rfl (lv_at hl 0 rfl) ?_
    refine gX7_7 X hJ (w := g.2.2.2) rfl dX7_opens_232 ?_
    refine lv_iload hx hb dX7_opens_235 (lv_at hl 5 rfl) ?_
    refine lv_bipush (v := 7) hx hb dX7_opens_237 (by decide) ?_
    refine xiadd (z := nI (360 * t + (104 + 8 * c + 7))) hx hb dX7_opens_239 (nI_a3 t (104 + 8 * c) 7) ?_
    refine lv_dup2_11 hx hb dX7_opens_240 rfl rfl ?_
    refine ld_s X hJ (t := t) (w := upd (upd w204 (20 + 7 * i + 4) ((w204 (20 + 7 * i + 4)) - gf)) (104 + 8 * c + 1) (((upd w204 (20 + 7 * i + 4) ((w204 (20 + 7 * i + 4)) - gf)) (104 + 8 * c + 1)) + gf)) (by omega) upS_1 (j := 104 + 8 * c + 7) (rfl) (by omega) dX7_opens_241 ?_
    refine lv_iload hx hb dX7_opens_242 (lv_at hl 6 rfl) ?_
    refine lv_iadd hx hb dX7_opens_244 ?_
    refine st_s X (t := t) hJ (by omega) (j := 104 + 8 * c + 7) (rfl) (by omega) dX7_opens_245 (fun H locs hJ => ?_)
    have hs : sX7_opens w i = bX7_opens_246 i (upd (upd (upd w204 (20 + 7 * i + 4) ((w204 (20 + 7 * i + 4)) - gf)) (104 + 8 * c + 1) (((upd w204 (20 + 7 * i + 4) ((w204 (20 + 7 * i + 4)) - gf)) (104 + 8 * c + 1)) + gf)) (104 + 8 * c + 7) (((upd (upd w204 (20 + 7 * i + 4) ((w204 (20 + 7 * i + 4)) - gf)) (104 + 8 * c + 1) (((upd w204 (20 + 7 * i + 4) ((w204 (20 + 7 * i + 4)) - gf)) (104 + 8 * c + 1)) + gf)) (104 + 8 * c + 7)) + gf)) c := hs.trans (by unfold bX7_opens_204; rfl)
    exact bk_246 (upd (upd (upd w204 (20 + 7 * i + 4) ((w204 (20 + 7 * i + 4)) - gf)) (104 + 8 * c + 1) (((upd w204 (20 + 7 * i + 4) ((w204 (20 + 7 * i + 4)) - gf)) (104 + 8 * c + 1)) + gf)) (104 + 8 * c + 7) (((upd (upd w204 (20 + 7 * i + 4) ((w204 (20 + 7 * i + 4)) - gf)) (104 + 8 * c + 1) (((upd w204 (20 + 7 * i + 4) ((w204 (20 + 7 * i + 4)) - gf)) (104 + 8 * c + 1)) + gf)) (104 + 8 * c + 7)) + gf)) c (Rn_upd (by unfold bad; omega) (Rn_upd (by unfold bad; omega) (Rn_upd (by unfold bad; omega) (hrn)))) (Nz_upd (by omega) (Nz_upd (by omega) (Nz_upd (by omega) (hnz)))) (by omega) _ _ _ hJ (lv_sub hl [0, 1, 2, 3, 4, 5] rfl) hs
  have bk_144 : ∀  (w144 : Row)  (c : Nat), (Rn w144) → (Nz i w144) → (c < 8) → ∀ (H : Heap) (locs : List Loc) (ls : Array Slot), JG E B s_ (upS g t w144) H locs → lv_has ls 10 [(0, .ref (B + 459)), (1, .int (nI (360 * t))), (2, .int (nI i)), (3, .int (nI (360 * t + (20 + 7 * i)))), (5, .int (nI c)), (6, .int (nI (360 * t + (104 + 8 * c))))] → sX7_opens w i = bX7_opens_144 i w144 c → W P_ l e_ (rmm 4 96 0 0) s_ m_ a_ below meth cd H locs 0 0 Q (F0 m_ 144 ls []) := by
    intro w144 c hrn hnz hc H locs ls hJ hl hs
    refine lv_aload_n hx hb dX7_opens_144 rfl (lv_at hl 0 rfl) ?_
    refine gX7_7 X hJ (w := g.2.2.2) rfl dX7_opens_145 ?_
    refine lv_iload hx hb dX7_opens_148 (lv_at hl 5 rfl) ?_
    refine lv_iconst (v := 3) hx hb dX7_opens_150 (by decide) ?_
    refine xiadd (z := nI (360 * t + (104 + 8 * c + 3))) hx hb dX7_opens_151 (nI_a3 t (104 + 8 * c) 3) ?_
    refine ld_s X hJ (t := t) (w := w144) (by omega) upS_1 (j := 104 + 8 * c + 3) (rfl) (by omega) dX7_opens_152 ?_
    refine lv_aload_n hx hb dX7_opens_153 rfl (lv_at hl 0 rfl) ?_
    refine gX7_7 X hJ (w := g.2.2.2) rfl dX7_opens_154 ?_
    refine lv_iload_n hx hb dX7_opens_157 rfl (lv_at hl 3 rfl) ?_
    refine lv_iconst (v := 3) hx hb dX7_opens_158 (by decide) ?_
    refine xiadd (z := nI (360 * t + (20 + 7 * i + 3))) hx hb dX7_opens_159 (nI_a3 t (20 + 7 * i) 3) ?_
    refine ld_s X hJ (t := t) (w := w144) (by omega) upS_1 (j := 20 + 7 * i + 3) (rfl) (by omega) dX7_opens_160 ?_
    refine lv_icmp_ne (tgt := 246) hx hb dX7_opens_161 (by decide) (fun c_161 => ?_) (fun c_161 => ?_)
    · skip
      have hs : sX7_opens w i = bX7_opens_246 i w144 c := hs.trans (by unfold bX7_opens_144; rw [if_neg c_161])
      exact bk_246 w144 c (hrn) (hnz) (by omega) _ _ _ hJ (lv_sub hl [0, 1, 2, 3, 4, 5] rfl) hs
    · skip
      refine lv_aload_n hx hb dX7_opens_164 rfl (lv_at hl 0 rfl) ?_
      refine gX7_7 X hJ (w := g.2.2.2) rfl dX7_opens_165 ?_
      refine lv_iload_n hx hb dX7_opens_168 rfl (lv_at hl 3 rfl) ?_
      refine lv_iconst (v := 4) hx hb dX7_opens_169 (by decide) ?_
      refine xiadd (z := nI (360 * t + (20 + 7 * i + 4))) hx hb dX7_opens_170 (nI_a3 t (20 + 7 * i) 4) ?_
      refine ld_s X hJ (t := t) (w := w144) (by omega) upS_1 (j := 20 + 7 * i + 4) (rfl) (by omega) dX7_opens_171 ?_
      refine lv_aload_n hx hb dX7_opens_172 rfl (lv_at hl 0 rfl) ?_
      refine gX7_7 X hJ (w := g.2.2.2) rfl dX7_opens_173 ?_
      refine lv_iload_n hx hb dX7_opens_176 rfl (lv_at hl 1 rfl) ?_
      refine lv_iconst (v := 2) hx hb dX7_opens_177 (by decide) ?_
      refine xiadd (z := nI (360 * t + (2))) hx hb dX7_opens_178 (nI_add (360 * t) 2) ?_
      refine ld_s X hJ (t := t) (w := w144) (by omega) upS_1 (j := 2) (rfl) (by omega) dX7_opens_179 ?_
      refine lv_icmp_ge (tgt := 194) hx hb dX7_opens_180 (by decide) (fun c_180 => ?_) (fun c_180 => ?_)
      · skip
        refine lv_aload_n hx hb dX7_opens_194 rfl (lv_at hl 0 rfl) ?_
        refine gX7_7 X hJ (w := g.2.2.2) rfl dX7_opens_195 ?_
        refine lv_iload_n hx hb dX7_opens_198 rfl (lv_at hl 1 rfl) ?_
        refine lv_iconst (v := 2) hx hb dX7_opens_199 (by decide) ?_
        refine xiadd (z := nI (360 * t + (2))) hx hb dX7_opens_200 (nI_add (360 * t) 2) ?_
        refine ld_s X hJ (t := t) (w := w144) (by omega) upS_1 (j := 2) (rfl) (by omega) dX7_opens_201 ?_
        refine lv_istore (lv' := [(9, .int (w144 (2))), (0, .ref (B + 459)), (1, .int (nI (360 * t))), (2, .int (nI i)), (3, .int (nI (360 * t + (20 + 7 * i)))), (5, .int (nI c)), (6, .int (nI (360 * t + (104 + 8 * c))))]) hx hb dX7_opens_202 hl (by decide) rfl (fun ls hl => ?_)
        have hs : sX7_opens w i = bX7_opens_204 i w144 c (w144 (2)) := hs.trans (by unfold bX7_opens_144; rw [if_pos c_161, if_pos c_180])
        exact bk_204 w144 c (w144 (2)) (hrn) (hnz) (by omega) _ _ _ hJ (lv_sub hl [1, 2, 3, 4, 5, 6, 0] rfl) hs
      · skip
        refine lv_aload_n hx hb dX7_opens_183 rfl (lv_at hl 0 rfl) ?_
        refine gX7_7 X hJ (w := g.2.2.2) rfl dX7_opens_184 ?_
        refine lv_iload_n hx hb dX7_opens_187 rfl (lv_at hl 3 rfl) ?_
        refine lv_iconst (v := 4) hx hb dX7_opens_188 (by decide) ?_
        refine xiadd (z := nI (360 * t + (20 + 7 * i + 4))) hx hb dX7_opens_189 (nI_a3 t (20 + 7 * i) 4) ?_
        refine ld_s X hJ (t := t) (w := w144) (by omega) upS_1 (j := 20 + 7 * i + 4) (rfl) (by omega) dX7_opens_190 ?_
        refine lv_goto (tgt := 202) hx hb dX7_opens_191 (by decide) ?_
        refine lv_istore (lv' := [(9, .int (w144 (20 + 7 * i + 4))), (0, .ref (B + 459)), (1, .int (nI (360 * t))), (2, .int (nI i)), (3, .int (nI (360 * t + (20 + 7 * i)))), (5, .int (nI c)), (6, .int (nI (360 * t + (104 + 8 * c))))]) hx hb dX7_opens_202 hl (by decide) rfl (fun ls hl => ?_)
        have hs : sX7_opens w i = bX7_opens_204 i w144 c (w144 (20 + 7 * i + 4)) := hs.trans (by unfold bX7_opens_144; rw [if_pos c_161, if_neg c_180])
        exact bk_204 w144 c (w144 (20 + 7 * i + 4)) (hrn) (hnz) (by omega) _ _ _ hJ (lv_sub hl [1, 2, 3, 4, 5, 6, 0] rfl) hs
  have bk_120 : ∀  (w120 : Row)  (nr : Int32)  (c : Nat)  (al : Int32)  (br : Int32), (Rn w120) → (Nz i w120) → (c < 8) → ∀ (H : Heap) (locs : List Loc) (ls : Array Slot), JG E B s_ (upS g t w120) H locs → lv_has ls 10 [(0, .ref (B + 459)), (1, .int (nI (360 * t))), (2, .int (nI i)), (3, .int (nI (360 * t + (20 + 7 * i)))), (4, .int nr), (5, .int (nI c)), (6, .int (nI (360 * t + (104 + 8 * c)))), (7, .int al), (8, .int br)] → sX7_opens w i = bX7_opens_120 i w120 nr c al br → W P_ l e_ (rmm 4 96 0 0) s_ m_ a_ below meth cd H locs 0 0 Q (F0 m_ 120 ls []) := by
    intro w120 nr c al br hrn hnz hc H locs ls hJ hl hs
    refine lv_aload_n hx hb dX7_opens_120 rfl (lv_at hl 0 rfl) ?_
    refine lv_iload_n hx hb dX7_opens_121 rfl (lv_at hl 1 rfl) ?_
    refine lv_iload hx hb dX7_opens_122 (lv_at hl 5 rfl) ?_
    refine lv_iload_n hx hb dX7_opens_124 rfl (lv_at hl 2 rfl) ?_
    refine lv_iload hx hb dX7_opens_125 (lv_at hl 7 rfl) ?_
    refine lv_if_ne (tgt := 135) hx hb dX7_opens_127 (by decide) (fun c_127 => ?_) (fun c_127 => ?_)
    · skip
      refine lv_iload hx hb dX7_opens_135 (lv_at hl 8 rfl) ?_
      refine lv_goto (tgt := 141) hx hb dX7_opens_137 (by decide) ?_
      refine kX7_63 X hJ (mX7_pays l E B _ t c i br w120 (by omega) (by omega) (by omega)) rfl (by omega) (at_M rfl) hl.1 ⟨Nat.le_of_ble_eq_true rfl, Nat.le_of_ble_eq_true rfl⟩ ⟨Nat.le_refl _, Nat.le_refl _⟩ (rest := []) rfl (Nat.le_of_ble_eq_true rfl) dX7_opens_141 (fun H locs hJ => ?_)
      have hs : sX7_opens w i = bX7_opens_144 i (sX7_pays w120 c i br) c := hs.trans (by unfold bX7_opens_120; rw [if_neg c_127])
      exact bk_144 (sX7_pays w120 c i br) c (Rn_pays (by omega) (by omega) (hrn)) (Nz_pays (by omega) (by omega) (by omega) (hnz)) (by omega) _ _ _ hJ (lv_sub hl [0, 1, 2, 3, 5, 6] rfl) hs
    · skip
      refine lv_iload hx hb dX7_opens_130 (lv_at hl 4 rfl) ?_
      refine lv_if_eq (tgt := 140) hx hb dX7_opens_132 (by decide) (fun c_132 => ?_) (fun c_132 => ?_)
      · skip
        refine lv_iconst (v := 0) hx hb dX7_opens_140 (by decide) ?_
        refine kX7_63 X hJ (mX7_pays l E B _ t c i 0 w120 (by omega) (by omega) (by omega)) rfl (by omega) (at_M rfl) hl.1 ⟨Nat.le_of_ble_eq_true rfl, Nat.le_of_ble_eq_true rfl⟩ ⟨Nat.le_refl _, Nat.le_refl _⟩ (rest := []) rfl (Nat.le_of_ble_eq_true rfl) dX7_opens_141 (fun H locs hJ => ?_)
        have hs : sX7_opens w i = bX7_opens_144 i (sX7_pays w120 c i 0) c := hs.trans (by unfold bX7_opens_120; rw [if_pos c_127, if_pos c_132])
        exact bk_144 (sX7_pays w120 c i 0) c (Rn_pays (by omega) (by omega) (hrn)) (Nz_pays (by omega) (by omega) (by omega) (hnz)) (by omega) _ _ _ hJ (lv_sub hl [0, 1, 2, 3, 5, 6] rfl) hs
      · skip
        refine lv_iload hx hb dX7_opens_135 (lv_at hl 8 rfl) ?_
        refine lv_goto (tgt := 141) hx hb dX7_opens_137 (by decide) ?_
        refine kX7_63 X hJ (mX7_pays l E B _ t c i br w120 (by omega) (by omega) (by omega)) rfl (by omega) (at_M rfl) hl.1 ⟨Nat.le_of_ble_eq_true rfl, Nat.le_of_ble_eq_true rfl⟩ ⟨Nat.le_refl _, Nat.le_refl _⟩ (rest := []) rfl (Nat.le_of_ble_eq_true rfl) dX7_opens_141 (fun H locs hJ => ?_)
        have hs : sX7_opens w i = bX7_opens_144 i (sX7_pays w120 c i br) c := hs.trans (by unfold bX7_opens_120; rw [if_pos c_127, if_neg c_132])
        exact bk_144 (sX7_pays w120 c i br) c (Rn_pays (by omega) (by omega) (hrn)) (Nz_pays (by omega) (by omega) (by omega) (hnz)) (by omega) _ _ _ hJ (lv_sub hl [0, 1, 2, 3, 5, 6] rfl) hs
  have bk_78 : ∀  (w78 : Row)  (nr : Int32)  (c : Nat)  (al : Int32), (Rn w78) → (Nz i w78) → (c < 8) → ∀ (H : Heap) (locs : List Loc) (ls : Array Slot), JG E B s_ (upS g t w78) H locs → lv_has ls 10 [(0, .ref (B + 459)), (1, .int (nI (360 * t))), (2, .int (nI i)), (3, .int (nI (360 * t + (20 + 7 * i)))), (4, .int nr), (5, .int (nI c)), (6, .int (nI (360 * t + (104 + 8 * c)))), (7, .int al)] → sX7_opens w i = bX7_opens_78 i w78 nr c al → W P_ l e_ (rmm 4 96 0 0) s_ m_ a_ below meth cd H locs 0 0 Q (F0 m_ 78 ls []) := by
    intro w78 nr c al hrn hnz hc H locs ls hJ hl hs
    refine lv_aload_n hx hb dX7_opens_78 rfl (lv_at hl 0 rfl) ?_
    refine gX7_7 X hJ (w := g.2.2.2) rfl dX7_opens_79 ?_
    refine lv_iload hx hb dX7_opens_82 (lv_at hl 6 rfl) ?_
    refine lv_iconst (v := 1) hx hb dX7_opens_84 (by decide) ?_
    refine xiadd (z := nI (360 * t + (104 + 8 * c + 1))) hx hb dX7_opens_85 (nI_a3 t (104 + 8 * c) 1) ?_
    refine ld_s X hJ (t := t) (w := w78) (by omega) upS_1 (j := 104 + 8 * c + 1) (rfl) (by omega) dX7_opens_86 ?_
    refine lv_aload_n hx hb dX7_opens_87 rfl (lv_at hl 0 rfl) ?_
    refine gX7_7 X hJ (w := g.2.2.2) rfl dX7_opens_88 ?_
    refine lv_iload_n hx hb dX7_opens_91 rfl (lv_at hl 1 rfl) ?_
    refine lv_iconst (v := 0) hx hb dX7_opens_92 (by decide) ?_
    refine xiadd (z := nI (360 * t + (0))) hx hb dX7_opens_93 (nI_add (360 * t) 0) ?_
    refine ld_s X hJ (t := t) (w := w78) (by omega) upS_1 (j := 0) (rfl) (by omega) dX7_opens_94 ?_
    refine lv_icmp_ge (tgt := 110) hx hb dX7_opens_95 (by decide) (fun c_95 => ?_) (fun c_95 => ?_)
    · skip
      refine lv_aload_n hx hb dX7_opens_110 rfl (lv_at hl 0 rfl) ?_
      refine gX7_7 X hJ (w := g.2.2.2) rfl dX7_opens_111 ?_
      refine lv_iload_n hx hb dX7_opens_114 rfl (lv_at hl 1 rfl) ?_
      refine lv_iconst (v := 0) hx hb dX7_opens_115 (by decide) ?_
      refine xiadd (z := nI (360 * t + (0))) hx hb dX7_opens_116 (nI_add (360 * t) 0) ?_
      refine ld_s X hJ (t := t) (w := w78) (by omega) upS_1 (j := 0) (rfl) (by omega) dX7_opens_117 ?_
      refine lv_istore (lv' := [(8, .int (w78 (0))), (0, .ref (B + 459)), (1, .int (nI (360 * t))), (2, .int (nI i)), (3, .int (nI (360 * t + (20 + 7 * i)))), (4, .int nr), (5, .int (nI c)), (6, .int (nI (360 * t + (104 + 8 * c)))), (7, .int al)]) hx hb dX7_opens_118 hl (by decide) rfl (fun ls hl => ?_)
      have hs : sX7_opens w i = bX7_opens_120 i w78 nr c al (w78 (0)) := hs.trans (by unfold bX7_opens_78; rw [if_pos c_95])
      exact bk_120 w78 nr c al (w78 (0)) (hrn) (hnz) (by omega) _ _ _ hJ (lv_sub hl [1, 2, 3, 4, 5, 6, 7, 8, 0] rfl) hs
    · skip
      refine lv_aload_n hx hb dX7_opens_98 rfl (lv_at hl 0 rfl) ?_
      refine gX7_7 X hJ (w := g.2.2.2) rfl dX7_opens_99 ?_
      refine lv_iload hx hb dX7_opens_102 (lv_at hl 6 rfl) ?_
      refine lv_iconst (v := 1) hx hb dX7_opens_104 (by decide) ?_
      refine xiadd (z := nI (360 * t + (104 + 8 * c + 1))) hx hb dX7_opens_105 (nI_a3 t (104 + 8 * c) 1) ?_
      refine ld_s X hJ (t := t) (w := w78) (by omega) upS_1 (j := 104 + 8 * c + 1) (rfl) (by omega) dX7_opens_106 ?_
      refine lv_goto (tgt := 118) hx hb dX7_opens_107 (by decide) ?_
      refine lv_istore (lv' := [(8, .int (w78 (104 + 8 * c + 1))), (0, .ref (B + 459)), (1, .int (nI (360 * t))), (2, .int (nI i)), (3, .int (nI (360 * t + (20 + 7 * i)))), (4, .int nr), (5, .int (nI c)), (6, .int (nI (360 * t + (104 + 8 * c)))), (7, .int al)]) hx hb dX7_opens_118 hl (by decide) rfl (fun ls hl => ?_)
      have hs : sX7_opens w i = bX7_opens_120 i w78 nr c al (w78 (104 + 8 * c + 1)) := hs.trans (by unfold bX7_opens_78; rw [if_neg c_95])
      exact bk_120 w78 nr c al (w78 (104 + 8 * c + 1)) (hrn) (hnz) (by omega) _ _ _ hJ (lv_sub hl [1, 2, 3, 4, 5, 6, 7, 8, 0] rfl) hs
  have bk_44 : ∀  (w44 : Row)  (nr : Int32)  (cm : Int32), (Rn w44) → (Nz i w44) → (cm = -6 ∨ sm cm 7) → ∀ (H : Heap) (locs : List Loc) (ls : Array Slot), JG E B s_ (upS g t w44) H locs → lv_has ls 10 [(0, .ref (B + 459)), (1, .int (nI (360 * t))), (2, .int (nI i)), (3, .int (nI (360 * t + (20 + 7 * i)))), (4, .int nr), (5, .int cm)] → sX7_opens w i = bX7_opens_44 i w44 nr cm → W P_ l e_ (rmm 4 96 0 0) s_ m_ a_ below meth cd H locs 0 0 Q (F0 m_ 44 ls []) := by
    intro w44 nr cm hrn hnz hcm H locs ls hJ hl hs
    refine lv_iload hx hb dX7_opens_44 (lv_at hl 5 rfl) ?_
    refine lv_bipush (v := (-6)) hx hb dX7_opens_46 (by decide) ?_
    refine lv_icmp_ne (tgt := 53) hx hb dX7_opens_48 (by decide) (fun c_48 => ?_) (fun c_48 => ?_)
    · skip
      have hcq := (hcm.resolve_left c_48).le
      have hl : lv_has ls 10 [(0, .ref (B + 459)), (1, .int (nI (360 * t))), (2, .int (nI i)), (3, .int (nI (360 * t + (20 + 7 * i)))), (4, .int nr), (5, .int (nI (nn cm)))] := by rw [← show cm = nI (nn cm) from (hcm.resolve_left c_48).eq]; exact hl
      refine lv_iload_n hx hb dX7_opens_53 rfl (lv_at hl 1 rfl) ?_
      refine lv_iload hx hb dX7_opens_54 (lv_at hl 5 rfl) ?_
      refine kX7_40 X hJ (qX7_cartAt l E B _ t (nn cm)) rfl hl.1 ⟨Nat.le_of_ble_eq_true rfl, Nat.le_of_ble_eq_true rfl⟩ ⟨Nat.le_refl _, Nat.le_refl _⟩ (rest := []) rfl (Nat.le_of_ble_eq_true rfl) dX7_opens_56 (fun H locs hJ => ?_)
      refine lv_istore (lv' := [(6, .int (nI (360 * t + (104 + 8 * (nn cm))))), (0, .ref (B + 459)), (1, .int (nI (360 * t))), (2, .int (nI i)), (3, .int (nI (360 * t + (20 + 7 * i)))), (4, .int nr), (5, .int (nI (nn cm)))]) hx hb dX7_opens_59 hl (by decide) rfl (fun ls hl => ?_)
      refine lv_aload_n hx hb dX7_opens_61 rfl (lv_at hl 1 rfl) ?_
      refine lv_iload_n hx hb dX7_opens_62 rfl (lv_at hl 2 rfl) ?_
      refine lv_iload_n hx hb dX7_opens_63 rfl (lv_at hl 3 rfl) ?_
      refine kX7_47 X hJ (mX7_many l E B _ t i w44 (by omega) (by omega) upS_1 (hrn)) rfl (by omega) (at_M rfl) hl.1 ⟨Nat.le_of_ble_eq_true rfl, Nat.le_of_ble_eq_true rfl⟩ ⟨Nat.le_refl _, Nat.le_refl _⟩ (rest := []) rfl (Nat.le_of_ble_eq_true rfl) dX7_opens_64 (fun H locs hJ => ?_)
      refine lv_iconst (v := 1) hx hb dX7_opens_67 (by decide) ?_
      refine lv_icmp_ne (tgt := 75) hx hb dX7_opens_68 (by decide) (fun c_68 => ?_) (fun c_68 => ?_)
      · skip
        refine lv_iconst (v := 0) hx hb dX7_opens_75 (by decide) ?_
        refine lv_istore (lv' := [(7, .int 0), (6, .int (nI (360 * t + (104 + 8 * (nn cm))))), (0, .ref (B + 459)), (1, .int (nI (360 * t))), (2, .int (nI i)), (3, .int (nI (360 * t + (20 + 7 * i)))), (4, .int nr), (5, .int (nI (nn cm)))]) hx hb dX7_opens_76 hl (by decide) rfl (fun ls hl => ?_)
        have hs : sX7_opens w i = bX7_opens_78 i w44 nr (nn cm) 0 := hs.trans (by unfold bX7_opens_44; rw [if_neg c_48, if_neg c_68])
        exact bk_78 w44 nr (nn cm) 0 (hrn) (hnz) (by omega) _ _ _ hJ (lv_sub hl [2, 3, 4, 5, 6, 7, 1, 0] rfl) hs
      · skip
        refine lv_iconst (v := 1) hx hb dX7_opens_71 (by decide) ?_
        refine lv_goto (tgt := 76) hx hb dX7_opens_72 (by decide) ?_
        refine lv_istore (lv' := [(7, .int 1), (6, .int (nI (360 * t + (104 + 8 * (nn cm))))), (0, .ref (B + 459)), (1, .int (nI (360 * t))), (2, .int (nI i)), (3, .int (nI (360 * t + (20 + 7 * i)))), (4, .int nr), (5, .int (nI (nn cm)))]) hx hb dX7_opens_76 hl (by decide) rfl (fun ls hl => ?_)
        have hs : sX7_opens w i = bX7_opens_78 i w44 nr (nn cm) 1 := hs.trans (by unfold bX7_opens_44; rw [if_neg c_48, if_pos c_68])
        exact bk_78 w44 nr (nn cm) 1 (hrn) (hnz) (by omega) _ _ _ hJ (lv_sub hl [2, 3, 4, 5, 6, 7, 1, 0] rfl) hs
    · skip
      refine lv_iconst (v := 0) hx hb dX7_opens_51 (by decide) ?_
      have hs : sX7_opens w i = (0, w44) := hs.trans (by unfold bX7_opens_44; rw [if_pos c_48])
      exact fin (by rw [hs]; dsimp only; exact hJ) (by rw [hs]) dX7_opens_52
  refine lv_iload_n hx hb dX7_opens_0 rfl (lv_at hl 1 rfl) ?_
  refine lv_iload_n hx hb dX7_opens_1 rfl (lv_at hl 2 rfl) ?_
  refine kX7_31 X hJ (qX7_bridgeAt l E B _ t i) rfl hl.1 ⟨Nat.le_of_ble_eq_true rfl, Nat.le_of_ble_eq_true rfl⟩ ⟨Nat.le_refl _, Nat.le_refl _⟩ (rest := []) rfl (Nat.le_of_ble_eq_true rfl) dX7_opens_2 (fun H locs hJ => ?_)
  refine lv_istore_n (lv' := [(3, .int (nI (360 * t + (20 + 7 * i)))), (0, .ref (B + 459)), (1, .int (nI (360 * t))), (2, .int (nI i))]) hx hb dX7_opens_5 rfl hl (by decide) rfl (fun ls hl => ?_)
  refine lv_aload_n hx hb dX7_opens_6 rfl (lv_at hl 1 rfl) ?_
  refine lv_iload_n hx hb dX7_opens_7 rfl (lv_at hl 2 rfl) ?_
  refine lv_iload_n hx hb dX7_opens_8 rfl (lv_at hl 3 rfl) ?_
  refine kX7_56 X hJ (mX7_areAsNear l E B _ t i w (by omega) (by omega) upS_1 (hrn)) rfl (by omega) (at_M rfl) hl.1 ⟨Nat.le_of_ble_eq_true rfl, Nat.le_of_ble_eq_true rfl⟩ ⟨Nat.le_refl _, Nat.le_refl _⟩ (rest := []) rfl (Nat.le_of_ble_eq_true rfl) dX7_opens_9 (fun H locs hJ => ?_)
  refine lv_istore (lv' := [(4, .int (sX7_areAsNear w i)), (3, .int (nI (360 * t + (20 + 7 * i)))), (0, .ref (B + 459)), (1, .int (nI (360 * t))), (2, .int (nI i))]) hx hb dX7_opens_12 hl (by decide) rfl (fun ls hl => ?_)
  refine lv_aload_n hx hb dX7_opens_14 rfl (lv_at hl 2 rfl) ?_
  refine lv_iload_n hx hb dX7_opens_15 rfl (lv_at hl 3 rfl) ?_
  refine lv_iload_n hx hb dX7_opens_16 rfl (lv_at hl 4 rfl) ?_
  refine kX7_60 X hJ (mX7_comer l E B _ t i w (by omega) (by omega) upS_1 (hrn)) rfl (by omega) (at_M rfl) hl.1 ⟨Nat.le_of_ble_eq_true rfl, Nat.le_of_ble_eq_true rfl⟩ ⟨Nat.le_refl _, Nat.le_refl _⟩ (rest := []) rfl (Nat.le_of_ble_eq_true rfl) dX7_opens_17 (fun H locs hJ => ?_)
  refine lv_istore (lv' := [(5, .int (sX7_comer w i)), (4, .int (sX7_areAsNear w i)), (3, .int (nI (360 * t + (20 + 7 * i)))), (0, .ref (B + 459)), (1, .int (nI (360 * t))), (2, .int (nI i))]) hx hb dX7_opens_20 hl (by decide) rfl (fun ls hl => ?_)
  refine lv_aload_n hx hb dX7_opens_22 rfl (lv_at hl 3 rfl) ?_
  refine gX7_7 X hJ (w := g.2.2.2) rfl dX7_opens_23 ?_
  refine lv_iload_n hx hb dX7_opens_26 rfl (lv_at hl 2 rfl) ?_
  refine lv_bipush (v := 6) hx hb dX7_opens_27 (by decide) ?_
  refine xiadd (z := nI (360 * t + (20 + 7 * i + 6))) hx hb dX7_opens_29 (nI_a3 t (20 + 7 * i) 6) ?_
  refine lv_dup2_11 hx hb dX7_opens_30 rfl rfl ?_
  refine ld_s X hJ (t := t) (w := w) (by omega) upS_1 (j := 20 + 7 * i + 6) (rfl) (by omega) dX7_opens_31 ?_
  refine lv_iload hx hb dX7_opens_32 (lv_at hl 1 rfl) ?_
  refine lv_if_eq (tgt := 41) hx hb dX7_opens_34 (by decide) (fun c_34 => ?_) (fun c_34 => ?_)
  · skip
    refine lv_iconst (v := 0) hx hb dX7_opens_41 (by decide) ?_
    refine lv_iadd hx hb dX7_opens_42 ?_
    refine st_s X (t := t) hJ (by omega) (j := 20 + 7 * i + 6) (rfl) (by omega) dX7_opens_43 (fun H locs hJ => ?_)
    have hs : sX7_opens w i = bX7_opens_44 i (upd w (20 + 7 * i + 6) ((w (20 + 7 * i + 6)) + 0)) (sX7_areAsNear w i) (sX7_comer w i) := by unfold sX7_opens; rw [if_pos c_34]
    exact bk_44 (upd w (20 + 7 * i + 6) ((w (20 + 7 * i + 6)) + 0)) (sX7_areAsNear w i) (sX7_comer w i) (Rn_upd (by unfold bad; omega) (hrn)) (Nz_upd (by omega) (hnz)) (comer_cm hrn) _ _ _ hJ (lv_sub hl [3, 4, 5, 2, 1, 0] rfl) hs
  · skip
    refine lv_iconst (v := 1) hx hb dX7_opens_37 (by decide) ?_
    refine lv_goto (tgt := 42) hx hb dX7_opens_38 (by decide) ?_
    refine lv_iadd hx hb dX7_opens_42 ?_
    refine st_s X (t := t) hJ (by omega) (j := 20 + 7 * i + 6) (rfl) (by omega) dX7_opens_43 (fun H locs hJ => ?_)
    have hs : sX7_opens w i = bX7_opens_44 i (upd w (20 + 7 * i + 6) ((w (20 + 7 * i + 6)) + 1)) (sX7_areAsNear w i) (sX7_comer w i) := by unfold sX7_opens; rw [if_neg c_34]
    exact bk_44 (upd w (20 + 7 * i + 6) ((w (20 + 7 * i + 6)) + 1)) (sX7_areAsNear w i) (sX7_comer w i) (Rn_upd (by unfold bad; omega) (hrn)) (Nz_upd (by omega) (hnz)) (comer_cm hrn) _ _ _ hJ (lv_sub hl [3, 4, 5, 2, 1, 0] rfl) hs

theorem Rn_o286 {i : Nat} {w : Row} {c : Nat} (hi : i < 12) (hc : c < 8) (h : Rn w) : Rn (bX7_opens_286 i w c).2 := Rn_draws hi (Rn_stops hc (Rn_upd (by unfold bad; omega) (Rn_upd (by unfold bad; omega) h)))
theorem Rn_i2 {β : Type} {c : Prop} {i : Decidable c} {a b : β × Row} (h1 : Rn a.2) (h2 : Rn b.2) : Rn (@ite _ c i a b).2 := by cases i <;> assumption
theorem Rn_iv {c : Prop} {i : Decidable c} {a b : Row} (h1 : Rn a) (h2 : Rn b) : Rn (@ite _ c i a b) := by cases i <;> assumption
theorem Rn_j2 {β : Type} {c : Prop} {i : Decidable c} {a b : β × Row} (h1 : c → Rn a.2) (h2 : ¬ c → Rn b.2) : Rn (@ite _ c i a b).2 := by
  cases i with
  | isTrue h => exact h1 h
  | isFalse h => exact h2 h
theorem Rn_o246 {i : Nat} {w : Row} {c : Nat} (hi : i < 12) (hc : c < 8) (h : Rn w) : Rn (bX7_opens_246 i w c).2 := Rn_i2 (Rn_o286 hi hc (Rn_upd (by unfold bad; omega) h)) (Rn_o286 hi hc (Rn_upd (by unfold bad; omega) h))
theorem Rn_o204 {i : Nat} {w : Row} {c : Nat} {gf : Int32} (hi : i < 12) (hc : c < 8) (h : Rn w) : Rn (bX7_opens_204 i w c gf).2 := Rn_o246 hi hc (Rn_upd (by unfold bad; omega) (Rn_upd (by unfold bad; omega) (Rn_upd (by unfold bad; omega) h)))
theorem Rn_o144 {i : Nat} {w : Row} {c : Nat} (hi : i < 12) (hc : c < 8) (h : Rn w) : Rn (bX7_opens_144 i w c).2 := Rn_i2 (Rn_i2 (Rn_o204 hi hc h) (Rn_o204 hi hc h)) (Rn_o246 hi hc h)
theorem Rn_o120 {i : Nat} {w : Row} {nr : Int32} {c : Nat} {al br : Int32} (hi : i < 12) (hc : c < 8) (h : Rn w) : Rn (bX7_opens_120 i w nr c al br).2 := Rn_i2 (Rn_i2 (Rn_o144 hi hc (Rn_pays hc hi h)) (Rn_o144 hi hc (Rn_pays hc hi h))) (Rn_o144 hi hc (Rn_pays hc hi h))
theorem Rn_o78 {i : Nat} {w : Row} {nr : Int32} {c : Nat} {al : Int32} (hi : i < 12) (hc : c < 8) (h : Rn w) : Rn (bX7_opens_78 i w nr c al).2 := Rn_i2 (Rn_o120 hi hc h) (Rn_o120 hi hc h)
theorem Rn_o44 {i : Nat} {w : Row} {nr cm : Int32} (hi : i < 12) (hcm : cm = -6 ∨ sm cm 7) (h : Rn w) : Rn (bX7_opens_44 i w nr cm).2 := by
  unfold bX7_opens_44
  refine Rn_j2 (fun _ => h) (fun q => ?_)
  have hc := (hcm.resolve_left q).le
  exact Rn_i2 (Rn_o78 hi (by omega) h) (Rn_o78 hi (by omega) h)
theorem Rn_opens {w : Row} {i : Nat} (hi : i < 12) (h : Rn w) : Rn (sX7_opens w i).2 := Rn_i2 (Rn_o44 hi (comer_cm h) (Rn_upd (by unfold bad; omega) h)) (Rn_o44 hi (comer_cm h) (Rn_upd (by unfold bad; omega) h))
def bX7_hour_41  : Nat → Row → Int32 → Nat → Int32 × Row
  | 0, w41, _, _ => (0, w41)
  | n + 1, w41, ov, p => if w41 (10) ≤ nI p then ((ov, upd w41 (4) ((w41 (4)) + 1))) else (bX7_hour_41  n (upd w41 (104 + 8 * (nn (w41 (12 + p))) + 4) ((w41 (104 + 8 * (nn (w41 (12 + p))) + 4)) + 1)) ov (p + 1))
def bX7_hour_4  : Nat → Row → Int32 → Nat → Int32 × Row
  | 0, w4, _, _ => (0, w4)
  | n + 1, w4, ov, p => if w4 (5) ≤ nI p then (bX7_hour_41  9 w4 ov 0) else (if (sX7_opens w4 p).1 = 0 then (bX7_hour_4  n ((sX7_opens w4 p).2) (ov + 0) (p + 1)) else (bX7_hour_4  n ((sX7_opens w4 p).2) (ov + 1) (p + 1)))
def sX7_hour (w : Row) : Int32 × Row := bX7_hour_4  13 w 0 0
set_option maxHeartbeats 4000000 in
set_option maxRecDepth 100000 in
theorem mX7_hour (l : Launch) (E : EE) (B : Nat) (g : GS) (t : Nat)  (w : Row) (ht : t < 10)  (hrn : Rn w) : CG l yX7_hour cX7_hour 4 (some .int) 5 125 E B [.ref (B + 459), .int (nI (360 * t))] (upS g t w) (some (.int (sX7_hour w).1)) (upS g t ((sX7_hour w).2)) := by
  refine mkI (own := RX7) (ty := .int) rfl (by decide) rfl (rfl) (Nat.le_of_ble_eq_true rfl) (fun P_ e_ s_ m_ a_ below meth cd Q X fin ls hl hJ => ?_)
  have hx := X.1
  have hb := X.2.1
  have hl : lv_has ls 4 [(0, .ref (B + 459)), (1, .int (nI (360 * t)))] := hl
  have bk_41 : ∀ (n : Nat) (w41 : Row)  (ov : Int32)  (p : Nat), 8 - p < n → (Rn w41) → (p ≤ 8) → ∀ (H : Heap) (locs : List Loc) (ls : Array Slot), JG E B s_ (upS g t w41) H locs → lv_has ls 4 [(0, .ref (B + 459)), (1, .int (nI (360 * t))), (2, .int ov), (3, .int (nI p))] → sX7_hour w = bX7_hour_41  n w41 ov p → W P_ l e_ (rmm 5 125 0 0) s_ m_ a_ below meth cd H locs 0 0 Q (F0 m_ 41 ls []) := by
    intro n
    induction n with
    | zero => intro w41 ov p hm; exact absurd hm (Nat.not_lt_zero _)
    | succ n ih =>
      intro w41 ov p hm hrn hp H locs ls hJ hl hs
      refine lv_iload_n hx hb dX7_hour_41 rfl (lv_at hl 3 rfl) ?_
      refine lv_aload_n hx hb dX7_hour_42 rfl (lv_at hl 0 rfl) ?_
      refine gX7_7 X hJ (w := g.2.2.2) rfl dX7_hour_43 ?_
      refine lv_iload_n hx hb dX7_hour_46 rfl (lv_at hl 1 rfl) ?_
      refine lv_bipush (v := 10) hx hb dX7_hour_47 (by decide) ?_
      refine xiadd (z := nI (360 * t + (10))) hx hb dX7_hour_49 (nI_add (360 * t) 10) ?_
      refine ld_s X hJ (t := t) (w := w41) (by omega) upS_1 (j := 10) (rfl) (by omega) dX7_hour_50 ?_
      refine lv_icmp_ge (tgt := 86) hx hb dX7_hour_51 (by decide) (fun c_51 => ?_) (fun c_51 => ?_)
      · skip
        refine lv_aload_n hx hb dX7_hour_86 rfl (lv_at hl 0 rfl) ?_
        refine gX7_7 X hJ (w := g.2.2.2) rfl dX7_hour_87 ?_
        refine lv_iload_n hx hb dX7_hour_90 rfl (lv_at hl 1 rfl) ?_
        refine lv_iconst (v := 4) hx hb dX7_hour_91 (by decide) ?_
        refine xiadd (z := nI (360 * t + (4))) hx hb dX7_hour_92 (nI_add (360 * t) 4) ?_
        refine lv_dup2_11 hx hb dX7_hour_93 rfl rfl ?_
        refine ld_s X hJ (t := t) (w := w41) (by omega) upS_1 (j := 4) (rfl) (by omega) dX7_hour_94 ?_
        refine lv_iconst (v := 1) hx hb dX7_hour_95 (by decide) ?_
        refine lv_iadd hx hb dX7_hour_96 ?_
        refine st_s X (t := t) hJ (by omega) (j := 4) (rfl) (by omega) dX7_hour_97 (fun H locs hJ => ?_)
        refine lv_iload_n hx hb dX7_hour_98 rfl (lv_at hl 2 rfl) ?_
        have hs : sX7_hour w = (ov, upd w41 (4) ((w41 (4)) + 1)) := hs.trans (by rw [bX7_hour_41, if_pos c_51])
        exact fin (by rw [hs]; dsimp only; exact hJ) (by rw [hs]) dX7_hour_99
      · skip
        have hp2 := hrn.1.lt10 (by omega) c_51
        have hq9 := (hrn.2.1 p (by omega)).le
        refine lv_aload_n hx hb dX7_hour_54 rfl (lv_at hl 0 rfl) ?_
        refine gX7_7 X hJ (w := g.2.2.2) rfl dX7_hour_55 ?_
        refine lv_iload_n hx hb dX7_hour_58 rfl (lv_at hl 1 rfl) ?_
        refine lv_aload_n hx hb dX7_hour_59 rfl (lv_at hl 0 rfl) ?_
        refine gX7_7 X hJ (w := g.2.2.2) rfl dX7_hour_60 ?_
        refine lv_iload_n hx hb dX7_hour_63 rfl (lv_at hl 1 rfl) ?_
        refine lv_bipush (v := 12) hx hb dX7_hour_64 (by decide) ?_
        refine xiadd (z := nI (360 * t + (12))) hx hb dX7_hour_66 (nI_add (360 * t) 12) ?_
        refine lv_iload_n hx hb dX7_hour_67 rfl (lv_at hl 3 rfl) ?_
        refine xiadd (z := nI (360 * t + (12 + p))) hx hb dX7_hour_68 (nI_a3 t 12 p) ?_
        refine ld_s X hJ (t := t) (w := w41) (by omega) upS_1 (j := 12 + p) (rfl) (by omega) dX7_hour_69 ?_
        refine cvt (y := nI (nn (w41 (12 + p)))) ((hrn.2.1 p (by omega)).eq) ?_
        refine kX7_40 X hJ (qX7_cartAt l E B _ t (nn (w41 (12 + p)))) rfl hl.1 ⟨Nat.le_of_ble_eq_true rfl, Nat.le_of_ble_eq_true rfl⟩ ⟨Nat.le_refl _, Nat.le_refl _⟩ (rest := [.ref (B + 460)]) rfl (Nat.le_of_ble_eq_true rfl) dX7_hour_70 (fun H locs hJ => ?_)
        refine lv_iconst (v := 4) hx hb dX7_hour_73 (by decide) ?_
        refine xiadd (z := nI (360 * t + (104 + 8 * (nn (w41 (12 + p))) + 4))) hx hb dX7_hour_74 (nI_a3 t (104 + 8 * (nn (w41 (12 + p)))) 4) ?_
        refine lv_dup2_11 hx hb dX7_hour_75 rfl rfl ?_
        refine ld_s X hJ (t := t) (w := w41) (by omega) upS_1 (j := 104 + 8 * (nn (w41 (12 + p))) + 4) (rfl) (by omega) dX7_hour_76 ?_
        refine lv_iconst (v := 1) hx hb dX7_hour_77 (by decide) ?_
        refine lv_iadd hx hb dX7_hour_78 ?_
        refine st_s X (t := t) hJ (by omega) (j := 104 + 8 * (nn (w41 (12 + p))) + 4) (rfl) (by omega) dX7_hour_79 (fun H locs hJ => ?_)
        refine lv_iinc (v := nI (p + 1)) (lv' := [(3, .int (nI (p + 1))), (0, .ref (B + 459)), (1, .int (nI (360 * t))), (2, .int ov)]) hx hb dX7_hour_80 hl (k := 3) rfl (by first | exact nI_add _ _ | rfl) (by decide) rfl (fun ls hl => ?_)
        refine lv_goto (tgt := 41) hx hb dX7_hour_83 (by decide) ?_
        have hs : sX7_hour w = bX7_hour_41  n (upd w41 (104 + 8 * (nn (w41 (12 + p))) + 4) ((w41 (104 + 8 * (nn (w41 (12 + p))) + 4)) + 1)) ov (p + 1) := hs.trans (by rw [bX7_hour_41, if_neg c_51])
        exact ih (upd w41 (104 + 8 * (nn (w41 (12 + p))) + 4) ((w41 (104 + 8 * (nn (w41 (12 + p))) + 4)) + 1)) ov (p + 1) (by omega) (Rn_upd (by unfold bad; omega) (hrn)) (by omega) _ _ _ hJ (lv_sub hl [1, 2, 3, 0] rfl) hs
  have bk_4 : ∀ (n : Nat) (w4 : Row)  (ov : Int32)  (p : Nat), 12 - p < n → (Rn w4) → (p ≤ 12) → ∀ (H : Heap) (locs : List Loc) (ls : Array Slot), JG E B s_ (upS g t w4) H locs → lv_has ls 4 [(0, .ref (B + 459)), (1, .int (nI (360 * t))), (2, .int ov), (3, .int (nI p))] → sX7_hour w = bX7_hour_4  n w4 ov p → W P_ l e_ (rmm 5 125 0 0) s_ m_ a_ below meth cd H locs 0 0 Q (F0 m_ 4 ls []) := by
    intro n
    induction n with
    | zero => intro w4 ov p hm; exact absurd hm (Nat.not_lt_zero _)
    | succ n ih =>
      intro w4 ov p hm hrn hp H locs ls hJ hl hs
      refine lv_iload_n hx hb dX7_hour_4 rfl (lv_at hl 3 rfl) ?_
      refine lv_aload_n hx hb dX7_hour_5 rfl (lv_at hl 0 rfl) ?_
      refine gX7_7 X hJ (w := g.2.2.2) rfl dX7_hour_6 ?_
      refine lv_iload_n hx hb dX7_hour_9 rfl (lv_at hl 1 rfl) ?_
      refine lv_iconst (v := 5) hx hb dX7_hour_10 (by decide) ?_
      refine xiadd (z := nI (360 * t + (5))) hx hb dX7_hour_11 (nI_add (360 * t) 5) ?_
      refine ld_s X hJ (t := t) (w := w4) (by omega) upS_1 (j := 5) (rfl) (by omega) dX7_hour_12 ?_
      refine lv_icmp_ge (tgt := 39) hx hb dX7_hour_13 (by decide) (fun c_13 => ?_) (fun c_13 => ?_)
      · skip
        refine lv_iconst (v := 0) hx hb dX7_hour_39 (by decide) ?_
        refine lv_istore_n (lv' := [(3, .int 0), (0, .ref (B + 459)), (1, .int (nI (360 * t))), (2, .int ov)]) hx hb dX7_hour_40 rfl hl (by decide) rfl (fun ls hl => ?_)
        have hs : sX7_hour w = bX7_hour_41  9 w4 ov 0 := hs.trans (by rw [bX7_hour_4, if_pos c_13])
        exact bk_41 9 w4 ov 0 (by omega) (hrn) (by omega) _ _ _ hJ (lv_sub hl [1, 2, 3, 0] rfl) hs
      · skip
        have hp2 := hrn.1.lt5 (by omega) c_13
        have hnz : Nz p _ := Nz_of hrn (by omega) hp2.1
        refine lv_iload_n hx hb dX7_hour_16 rfl (lv_at hl 2 rfl) ?_
        refine lv_aload_n hx hb dX7_hour_17 rfl (lv_at hl 0 rfl) ?_
        refine lv_iload_n hx hb dX7_hour_18 rfl (lv_at hl 1 rfl) ?_
        refine lv_iload_n hx hb dX7_hour_19 rfl (lv_at hl 3 rfl) ?_
        refine kX7_73 X hJ (mX7_opens l E B _ t p w4 (by omega) (by omega) (hrn) (hnz)) rfl (by omega) (at_M rfl) hl.1 ⟨Nat.le_of_ble_eq_true rfl, Nat.le_of_ble_eq_true rfl⟩ ⟨Nat.le_refl _, Nat.le_refl _⟩ (rest := [.int ov]) rfl (Nat.le_of_ble_eq_true rfl) dX7_hour_20 (fun H locs hJ => ?_)
        refine lv_if_eq (tgt := 30) hx hb dX7_hour_23 (by decide) (fun c_23 => ?_) (fun c_23 => ?_)
        · skip
          refine lv_iconst (v := 0) hx hb dX7_hour_30 (by decide) ?_
          refine lv_iadd hx hb dX7_hour_31 ?_
          refine lv_istore_n (lv' := [(2, .int (ov + 0)), (0, .ref (B + 459)), (1, .int (nI (360 * t))), (3, .int (nI p))]) hx hb dX7_hour_32 rfl hl (by decide) rfl (fun ls hl => ?_)
          refine lv_iinc (v := nI (p + 1)) (lv' := [(3, .int (nI (p + 1))), (2, .int (ov + 0)), (0, .ref (B + 459)), (1, .int (nI (360 * t)))]) hx hb dX7_hour_33 hl (k := 3) rfl (by first | exact nI_add _ _ | rfl) (by decide) rfl (fun ls hl => ?_)
          refine lv_goto (tgt := 4) hx hb dX7_hour_36 (by decide) ?_
          have hs : sX7_hour w = bX7_hour_4  n ((sX7_opens w4 p).2) (ov + 0) (p + 1) := hs.trans (by rw [bX7_hour_4, if_neg c_13, if_pos c_23])
          exact ih ((sX7_opens w4 p).2) (ov + 0) (p + 1) (by omega) (Rn_opens (by omega) (hrn)) (by omega) _ _ _ hJ (lv_sub hl [2, 3, 1, 0] rfl) hs
        · skip
          refine lv_iconst (v := 1) hx hb dX7_hour_26 (by decide) ?_
          refine lv_goto (tgt := 31) hx hb dX7_hour_27 (by decide) ?_
          refine lv_iadd hx hb dX7_hour_31 ?_
          refine lv_istore_n (lv' := [(2, .int (ov + 1)), (0, .ref (B + 459)), (1, .int (nI (360 * t))), (3, .int (nI p))]) hx hb dX7_hour_32 rfl hl (by decide) rfl (fun ls hl => ?_)
          refine lv_iinc (v := nI (p + 1)) (lv' := [(3, .int (nI (p + 1))), (2, .int (ov + 1)), (0, .ref (B + 459)), (1, .int (nI (360 * t)))]) hx hb dX7_hour_33 hl (k := 3) rfl (by first | exact nI_add _ _ | rfl) (by decide) rfl (fun ls hl => ?_)
          refine lv_goto (tgt := 4) hx hb dX7_hour_36 (by decide) ?_
          have hs : sX7_hour w = bX7_hour_4  n ((sX7_opens w4 p).2) (ov + 1) (p + 1) := hs.trans (by rw [bX7_hour_4, if_neg c_13, if_neg c_23])
          exact ih ((sX7_opens w4 p).2) (ov + 1) (p + 1) (by omega) (Rn_opens (by omega) (hrn)) (by omega) _ _ _ hJ (lv_sub hl [2, 3, 1, 0] rfl) hs
  refine lv_iconst (v := 0) hx hb dX7_hour_0 (by decide) ?_
  refine lv_istore_n (lv' := [(2, .int 0), (0, .ref (B + 459)), (1, .int (nI (360 * t)))]) hx hb dX7_hour_1 rfl hl (by decide) rfl (fun ls hl => ?_)
  refine lv_iconst (v := 0) hx hb dX7_hour_2 (by decide) ?_
  refine lv_istore_n (lv' := [(3, .int 0), (2, .int 0), (0, .ref (B + 459)), (1, .int (nI (360 * t)))]) hx hb dX7_hour_3 rfl hl (by decide) rfl (fun ls hl => ?_)
  have hs : sX7_hour w = bX7_hour_4  13 w 0 0 := by unfold sX7_hour; rfl
  exact bk_4 13 w 0 0 (by omega) (hrn) (by omega) _ _ _ hJ (lv_sub hl [2, 3, 1, 0] rfl) hs

theorem Rn_hour {w : Row} (h : Rn w) : Rn (sX7_hour w).2 := by
  have k2 : ∀ (n : Nat) (w : Row) (ov : Int32) (p : Nat), p ≤ 8 → Rn w → Rn (bX7_hour_41 n w ov p).2 := by
    intro n
    induction n with
    | zero => intro w ov p _ h; exact h
    | succ n ih =>
      intro w ov p hp h
      rw [bX7_hour_41]
      by_cases h1 : w (10) ≤ nI p
      · rw [if_pos h1]; exact Rn_upd (by unfold bad; omega) h
      · rw [if_neg h1]
        have hp2 := h.1.lt10 (by omega) h1
        have hq9 := (h.2.1 p (by omega)).le
        exact ih _ _ _ (by omega) (Rn_upd (by unfold bad; omega) h)
  have k1 : ∀ (n : Nat) (w : Row) (ov : Int32) (p : Nat), p ≤ 12 → Rn w → Rn (bX7_hour_4 n w ov p).2 := by
    intro n
    induction n with
    | zero => intro w ov p _ h; exact h
    | succ n ih =>
      intro w ov p hp h
      rw [bX7_hour_4]
      by_cases h1 : w (5) ≤ nI p
      · rw [if_pos h1]; exact k2 _ _ _ _ (by omega) h
      · rw [if_neg h1]
        have hp2 := h.1.lt5 (by omega) h1
        split
        · exact ih _ _ _ (by omega) (Rn_opens (by omega) h)
        · exact ih _ _ _ (by omega) (Rn_opens (by omega) h)
  unfold sX7_hour
  exact k1 _ _ _ _ (by omega) h
def bX7_hours_5  (x : Int32) : Nat → Row → Int32 → Nat → Int32 × Row
  | 0, w5, _, _ => (0, w5)
  | n + 1, w5, ov, p => if x ≤ nI p then ((ov, w5)) else (bX7_hours_5 x n ((sX7_hour w5).2) (ov + ((sX7_hour w5).1)) (p + 1))
def sX7_hours (w : Row) (x : Int32) : Int32 × Row := bX7_hours_5 x 100 w 0 0
set_option maxHeartbeats 4000000 in
set_option maxRecDepth 100000 in
theorem mX7_hours (l : Launch) (E : EE) (B : Nat) (g : GS) (t : Nat) (x : Int32) (w : Row) (ht : t < 10)  (hrn : Rn w) (hxr : sm x 99) : CG l yX7_hours cX7_hours 5 (some .int) 6 148 E B [.ref (B + 459), .int (nI (360 * t)), .int x] (upS g t w) (some (.int (sX7_hours w x).1)) (upS g t ((sX7_hours w x).2)) := by
  refine mkI (own := RX7) (ty := .int) rfl (by decide) rfl (rfl) (Nat.le_of_ble_eq_true rfl) (fun P_ e_ s_ m_ a_ below meth cd Q X fin ls hl hJ => ?_)
  have hx := X.1
  have hb := X.2.1
  have hl : lv_has ls 5 [(0, .ref (B + 459)), (1, .int (nI (360 * t))), (2, .int x)] := hl
  have bk_5 : ∀ (n : Nat) (w5 : Row)  (ov : Int32)  (p : Nat), 99 - p < n → (Rn w5) → (p ≤ 99) → ∀ (H : Heap) (locs : List Loc) (ls : Array Slot), JG E B s_ (upS g t w5) H locs → lv_has ls 5 [(0, .ref (B + 459)), (1, .int (nI (360 * t))), (2, .int x), (3, .int ov), (4, .int (nI p))] → sX7_hours w x = bX7_hours_5 x n w5 ov p → W P_ l e_ (rmm 6 148 0 0) s_ m_ a_ below meth cd H locs 0 0 Q (F0 m_ 5 ls []) := by
    intro n
    induction n with
    | zero => intro w5 ov p hm; exact absurd hm (Nat.not_lt_zero _)
    | succ n ih =>
      intro w5 ov p hm hrn hp H locs ls hJ hl hs
      refine lv_iload hx hb dX7_hours_5 (lv_at hl 4 rfl) ?_
      refine lv_iload_n hx hb dX7_hours_7 rfl (lv_at hl 2 rfl) ?_
      refine lv_icmp_ge (tgt := 25) hx hb dX7_hours_8 (by decide) (fun c_8 => ?_) (fun c_8 => ?_)
      · skip
        refine lv_iload_n hx hb dX7_hours_25 rfl (lv_at hl 3 rfl) ?_
        have hs : sX7_hours w x = (ov, w5) := hs.trans (by rw [bX7_hours_5, if_pos c_8])
        exact fin (by rw [hs]; dsimp only; exact hJ) (by rw [hs]) dX7_hours_26
      · skip
        have hp2 : p < 99 := by have := (not_congr (cnt_le (p := p) hxr (by omega))).mp c_8; have := hxr.le; omega
        refine lv_iload_n hx hb dX7_hours_11 rfl (lv_at hl 3 rfl) ?_
        refine lv_aload_n hx hb dX7_hours_12 rfl (lv_at hl 0 rfl) ?_
        refine lv_iload_n hx hb dX7_hours_13 rfl (lv_at hl 1 rfl) ?_
        refine kX7_76 X hJ (mX7_hour l E B _ t w5 (by omega) (hrn)) rfl (by omega) (at_M rfl) hl.1 ⟨Nat.le_of_ble_eq_true rfl, Nat.le_of_ble_eq_true rfl⟩ ⟨Nat.le_refl _, Nat.le_refl _⟩ (rest := [.int ov]) rfl (Nat.le_of_ble_eq_true rfl) dX7_hours_14 (fun H locs hJ => ?_)
        refine lv_iadd hx hb dX7_hours_17 ?_
        refine lv_istore_n (lv' := [(3, .int (ov + ((sX7_hour w5).1))), (0, .ref (B + 459)), (1, .int (nI (360 * t))), (2, .int x), (4, .int (nI p))]) hx hb dX7_hours_18 rfl hl (by decide) rfl (fun ls hl => ?_)
        refine lv_iinc (v := nI (p + 1)) (lv' := [(4, .int (nI (p + 1))), (3, .int (ov + ((sX7_hour w5).1))), (0, .ref (B + 459)), (1, .int (nI (360 * t))), (2, .int x)]) hx hb dX7_hours_19 hl (k := 4) rfl (by first | exact nI_add _ _ | rfl) (by decide) rfl (fun ls hl => ?_)
        refine lv_goto (tgt := 5) hx hb dX7_hours_22 (by decide) ?_
        have hs : sX7_hours w x = bX7_hours_5 x n ((sX7_hour w5).2) (ov + ((sX7_hour w5).1)) (p + 1) := hs.trans (by rw [bX7_hours_5, if_neg c_8])
        exact ih ((sX7_hour w5).2) (ov + ((sX7_hour w5).1)) (p + 1) (by omega) (Rn_hour (hrn)) (by omega) _ _ _ hJ (lv_sub hl [2, 3, 4, 1, 0] rfl) hs
  refine lv_iconst (v := 0) hx hb dX7_hours_0 (by decide) ?_
  refine lv_istore_n (lv' := [(3, .int 0), (0, .ref (B + 459)), (1, .int (nI (360 * t))), (2, .int x)]) hx hb dX7_hours_1 rfl hl (by decide) rfl (fun ls hl => ?_)
  refine lv_iconst (v := 0) hx hb dX7_hours_2 (by decide) ?_
  refine lv_istore (lv' := [(4, .int 0), (3, .int 0), (0, .ref (B + 459)), (1, .int (nI (360 * t))), (2, .int x)]) hx hb dX7_hours_3 hl (by decide) rfl (fun ls hl => ?_)
  have hs : sX7_hours w x = bX7_hours_5 x 100 w 0 0 := by unfold sX7_hours; rfl
  exact bk_5 100 w 0 0 (by omega) (hrn) (by omega) _ _ _ hJ (lv_sub hl [2, 3, 4, 1, 0] rfl) hs

theorem Rn_hours {w : Row} {x : Int32} (h : Rn w) : Rn (sX7_hours w x).2 := by
  have key : ∀ (n : Nat) (w : Row) (ov : Int32) (p : Nat), Rn w → Rn (bX7_hours_5 x n w ov p).2 := by
    intro n
    induction n with
    | zero => intro w ov p h; exact h
    | succ n ih =>
      intro w ov p h
      rw [bX7_hours_5]
      exact Rn_i2 h (ih _ _ _ (Rn_hour h))
  unfold sX7_hours
  exact key _ _ _ _ h
