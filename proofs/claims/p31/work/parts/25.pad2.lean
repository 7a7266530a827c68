def sX6_wipe (u : Row) : Int32 × Row := (u 3, (sX4_clear u))
set_option maxHeartbeats 4000000 in
set_option maxRecDepth 100000 in
theorem mX6_wipe (l : Launch) (E : EE) (B : Nat) (g : GS)  (u : Row) : CG l yX6_wipe cX6_wipe 2 (some .int) 1 20 E B [.ref (B + 0)] (upC g u) (some (.int (sX6_wipe u).1)) (upC g ((sX6_wipe u).2)) := by
  refine mkI (own := RX6) (ty := .int) rfl (by decide) rfl (rfl) (Nat.le_of_ble_eq_true rfl) (fun P_ e_ s_ m_ a_ below meth cd Q X fin ls hl hJ => ?_)
  have hx := X.1
  have hb := X.2.1
  have hl : lv_has ls 2 [(0, .ref (B + 0))] := hl
  refine lv_aload_n hx hb dX6_wipe_0 rfl (lv_at hl 0 rfl) ?_
  refine gX6_37 X hJ  dX6_wipe_1 ?_
  refine gX6_92 X hJ (w := u) rfl dX6_wipe_4 ?_
  refine lv_istore_n (lv' := [(1, .int (u 3)), (0, .ref (B + 0))]) hx hb dX6_wipe_7 rfl hl (by decide) rfl (fun ls hl => ?_)
  refine lv_aload_n hx hb dX6_wipe_8 rfl (lv_at hl 1 rfl) ?_
  refine gX6_37 X hJ  dX6_wipe_9 ?_
  refine kX6_85 X hJ (mX4_clear l E B _ u) rfl (by omega) (at_P rfl) hl.1 ⟨Nat.le_of_ble_eq_true rfl, Nat.le_of_ble_eq_true rfl⟩ ⟨Nat.le_refl _, Nat.le_refl _⟩ (rest := []) rfl (Nat.le_of_ble_eq_true rfl) dX6_wipe_12 (fun H locs hJ => ?_)
  refine lv_iload_n hx hb dX6_wipe_15 rfl (lv_at hl 0 rfl) ?_
  have hs : sX6_wipe u = (u 3, (sX4_clear u)) := by unfold sX6_wipe; rfl
  exact fin (by rw [hs]; dsimp only; exact hJ) (by rw [hs]) dX6_wipe_16

def sX6_sign (u : Row) (x : Int32) : Int32 := sX4_codeAt u x
set_option maxHeartbeats 4000000 in
set_option maxRecDepth 100000 in
theorem mX6_sign (l : Launch) (E : EE) (B : Nat) (g : GS) (x : Int32) (u : Row) (hw : g.2.1 = u) (hpd : Pd u) : CG l yX6_sign cX6_sign 2 (some .int) 1 21 E B [.ref (B + 0), .int x] g (some (.int (sX6_sign u x))) g := by
  refine mkI (own := RX6) (ty := .int) rfl (by decide) rfl (rfl) (Nat.le_of_ble_eq_true rfl) (fun P_ e_ s_ m_ a_ below meth cd Q X fin ls hl hJ => ?_)
  have hx := X.1
  have hb := X.2.1
  have hl : lv_has ls 2 [(0, .ref (B + 0)), (1, .int x)] := hl
  refine lv_aload_n hx hb dX6_sign_0 rfl (lv_at hl 0 rfl) ?_
  refine gX6_37 X hJ  dX6_sign_1 ?_
  refine lv_iload_n hx hb dX6_sign_4 rfl (lv_at hl 1 rfl) ?_
  refine kX6_130 X hJ (mX4_codeAt l E B _ x u hw (hpd)) rfl (by omega) (at_P rfl) hl.1 ⟨Nat.le_of_ble_eq_true rfl, Nat.le_of_ble_eq_true rfl⟩ ⟨Nat.le_refl _, Nat.le_refl _⟩ (rest := []) rfl (Nat.le_of_ble_eq_true rfl) dX6_sign_5 (fun H locs hJ => ?_)
  have hs : sX6_sign u x = sX4_codeAt u x := by unfold sX6_sign; rfl
  exact fin hJ (by rw [hs]) dX6_sign_8

