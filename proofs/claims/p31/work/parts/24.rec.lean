theorem sp7a {x : Int32} (h : sm x 6) : (x + 1) - (x + 1) / 7 * 7 = nI ((nn x + 1) % 7) := by
  have e : x + 1 = nI (nn x + 1) := by rw [← nI_1, ← h.eq]
  have := h.le
  rw [e]
  exact pk_rem (a := nn x + 1) (d := 7) (by omega) (by omega) (by omega)
theorem sp7b {x : Int32} (h : sm x 6) : ((x + 7) - 1) - ((x + 7) - 1) / 7 * 7 = nI ((nn x + 6) % 7) := by
  have e : (x + 7) - 1 = nI (nn x + 6) := by
    have e1 : x + 7 = nI (nn x + 7) := by
      have := nI_add (nn x) 7
      rw [← h.eq] at this
      exact this
    rw [e1]; exact nI_pred _
  have := h.le
  rw [e]
  exact pk_rem (a := nn x + 6) (d := 7) (by omega) (by omega) (by omega)
theorem Sp_sX2_keepNoted {u : Row} (h : Sp u) : Sp (sX2_keepNoted u) := by
  unfold sX2_keepNoted
  refine Sp_upd (by decide) ?_
  unfold Sp
  rw [show ∀ v, upd u 0 v 0 = v from fun _ => rfl, sp7a h]
  exact sm_nI (by omega) (by omega)
theorem Pd_sX2_keepNoted {u : Row} (h : Pd u) : Pd (sX2_keepNoted u) := Pd_upd (by decide) (Pd_upd (by decide) h)
theorem Gn_note {g : GS} (h : Gn g) : Gn (sX2_note g) := Gn_upW h (h.1 0 (by omega))
def sX2_takeBack (g : GS) : GS := upW (upC (upC g (upd (g.2.1) (0) ((((g.2.1 0) + 7) - 1) - (((g.2.1 0) + 7) - 1) / 7 * 7))) (upd ((upC g (upd (g.2.1) (0) ((((g.2.1 0) + 7) - 1) - (((g.2.1 0) + 7) - 1) / 7 * 7))).2.1) (1) ((((upC g (upd (g.2.1) (0) ((((g.2.1 0) + 7) - 1) - (((g.2.1 0) + 7) - 1) / 7 * 7))).2.1) 1) - 1))) 0 ((upC (upC g (upd (g.2.1) (0) ((((g.2.1 0) + 7) - 1) - (((g.2.1 0) + 7) - 1) / 7 * 7))) (upd ((upC g (upd (g.2.1) (0) ((((g.2.1 0) + 7) - 1) - (((g.2.1 0) + 7) - 1) / 7 * 7))).2.1) (1) ((((upC g (upd (g.2.1) (0) ((((g.2.1 0) + 7) - 1) - (((g.2.1 0) + 7) - 1) / 7 * 7))).2.1) 1) - 1))).1 (2 + ((nn (g.2.1 0) + 6) % 7)))
set_option maxHeartbeats 4000000 in
set_option maxRecDepth 100000 in
theorem mX2_takeBack (l : Launch) (E : EE) (B : Nat) (g : GS)  (hgn : Gn g) : CG l yX2_takeBack cX2_takeBack 2 none 3 83 E B [.ref (B + 83), .ref (B + wo 0)] g none (sX2_takeBack g) := by
  refine mkV (own := RX2) rfl (by decide) rfl (Nat.le_of_ble_eq_true rfl) (fun P_ e_ s_ m_ a_ below meth cd Q X _ fin ls hl hJ => ?_)
  have hx := X.1
  have hb := X.2.1
  have hl : lv_has ls 2 [(0, .ref (B + 83)), (1, .ref (B + wo 0))] := hl
  refine lv_aload_n hx hb dX2_takeBack_0 rfl (lv_at hl 0 rfl) ?_
  refine lv_aload_n hx hb dX2_takeBack_1 rfl (lv_at hl 0 rfl) ?_
  refine gX2_18 X hJ (w := g.2.1) rfl dX2_takeBack_2 ?_
  refine lv_bipush (v := 7) hx hb dX2_takeBack_5 (by decide) ?_
  refine lv_iadd hx hb dX2_takeBack_7 ?_
  refine lv_iconst (v := 1) hx hb dX2_takeBack_8 (by decide) ?_
  refine lv_isub hx hb dX2_takeBack_9 ?_
  refine lv_bipush (v := 7) hx hb dX2_takeBack_10 (by decide) ?_
  refine lv_irem hx hb dX2_takeBack_12 (by decide) ?_
  have hJ : JG E B s_ (upC g g.2.1) _ _ := hJ
  refine pX2_18 X hJ  dX2_takeBack_13 (fun H locs hJ => ?_)
  refine lv_aload_n hx hb dX2_takeBack_16 rfl (lv_at hl 0 rfl) ?_
  refine lv_dup hx hb dX2_takeBack_17 rfl ?_
  refine gX2_26 X hJ (w := (upC g (upd (g.2.1) (0) ((((g.2.1 0) + 7) - 1) - (((g.2.1 0) + 7) - 1) / 7 * 7))).2.1) rfl dX2_takeBack_18 ?_
  refine lv_iconst (v := 1) hx hb dX2_takeBack_21 (by decide) ?_
  refine lv_isub hx hb dX2_takeBack_22 ?_
  have hJ : JG E B s_ (upC (upC g (upd (g.2.1) (0) ((((g.2.1 0) + 7) - 1) - (((g.2.1 0) + 7) - 1) / 7 * 7))) (upC g (upd (g.2.1) (0) ((((g.2.1 0) + 7) - 1) - (((g.2.1 0) + 7) - 1) / 7 * 7))).2.1) _ _ := hJ
  refine pX2_26 X hJ  dX2_takeBack_23 (fun H locs hJ => ?_)
  refine lv_aload_n hx hb dX2_takeBack_26 rfl (lv_at hl 1 rfl) ?_
  refine lv_aload_n hx hb dX2_takeBack_27 rfl (lv_at hl 0 rfl) ?_
  refine gX2_13 X hJ (w := (upC (upC g (upd (g.2.1) (0) ((((g.2.1 0) + 7) - 1) - (((g.2.1 0) + 7) - 1) / 7 * 7))) (upd ((upC g (upd (g.2.1) (0) ((((g.2.1 0) + 7) - 1) - (((g.2.1 0) + 7) - 1) / 7 * 7))).2.1) (1) ((((upC g (upd (g.2.1) (0) ((((g.2.1 0) + 7) - 1) - (((g.2.1 0) + 7) - 1) / 7 * 7))).2.1) 1) - 1))).2.1) rfl dX2_takeBack_28 ?_
  refine lv_aload_n hx hb dX2_takeBack_31 rfl (lv_at hl 0 rfl) ?_
  refine gX2_18 X hJ (w := (upC (upC g (upd (g.2.1) (0) ((((g.2.1 0) + 7) - 1) - (((g.2.1 0) + 7) - 1) / 7 * 7))) (upd ((upC g (upd (g.2.1) (0) ((((g.2.1 0) + 7) - 1) - (((g.2.1 0) + 7) - 1) / 7 * 7))).2.1) (1) ((((upC g (upd (g.2.1) (0) ((((g.2.1 0) + 7) - 1) - (((g.2.1 0) + 7) - 1) / 7 * 7))).2.1) 1) - 1))).2.1) rfl dX2_takeBack_32 ?_
  refine cvt (y := nI ((nn (g.2.1 0) + 6) % 7)) (sp7b (hgn.2.2)) ?_
  refine ld_states X hJ (j := (nn (g.2.1 0) + 6) % 7) (rfl) (by omega) dX2_takeBack_35 ?_
  refine kX2_22 X hJ (nX5_copyFrom l E B (upC (upC g (upd (g.2.1) (0) ((((g.2.1 0) + 7) - 1) - (((g.2.1 0) + 7) - 1) / 7 * 7))) (upd ((upC g (upd (g.2.1) (0) ((((g.2.1 0) + 7) - 1) - (((g.2.1 0) + 7) - 1) / 7 * 7))).2.1) (1) ((((upC g (upd (g.2.1) (0) ((((g.2.1 0) + 7) - 1) - (((g.2.1 0) + 7) - 1) / 7 * 7))).2.1) 1) - 1))) 0 (2 + ((nn (g.2.1 0) + 6) % 7)) (by omega) (by omega) (by omega)) rfl (lt_W0 (by omega)) (at_W (by omega) rfl) hl.1 ⟨Nat.le_of_ble_eq_true rfl, Nat.le_of_ble_eq_true rfl⟩ ⟨Nat.le_refl _, Nat.le_refl _⟩ (rest := []) rfl (Nat.le_of_ble_eq_true rfl) dX2_takeBack_36 (fun H locs hJ => ?_)
  have hs : sX2_takeBack g = upW (upC (upC g (upd (g.2.1) (0) ((((g.2.1 0) + 7) - 1) - (((g.2.1 0) + 7) - 1) / 7 * 7))) (upd ((upC g (upd (g.2.1) (0) ((((g.2.1 0) + 7) - 1) - (((g.2.1 0) + 7) - 1) / 7 * 7))).2.1) (1) ((((upC g (upd (g.2.1) (0) ((((g.2.1 0) + 7) - 1) - (((g.2.1 0) + 7) - 1) / 7 * 7))).2.1) 1) - 1))) 0 ((upC (upC g (upd (g.2.1) (0) ((((g.2.1 0) + 7) - 1) - (((g.2.1 0) + 7) - 1) / 7 * 7))) (upd ((upC g (upd (g.2.1) (0) ((((g.2.1 0) + 7) - 1) - (((g.2.1 0) + 7) - 1) / 7 * 7))).2.1) (1) ((((upC g (upd (g.2.1) (0) ((((g.2.1 0) + 7) - 1) - (((g.2.1 0) + 7) - 1) / 7 * 7))).2.1) 1) - 1))).1 (2 + ((nn (g.2.1 0) + 6) % 7))) := by unfold sX2_takeBack; rfl
  exact fin (by rw [hs]; exact hJ) dX2_takeBack_39

def sX6_recorded (g : GS) (r : Int32) : Int32 × GS := if r < 0 then ((r, g)) else ((r, upC g (sX2_keepNoted g.2.1)))
set_option maxHeartbeats 4000000 in
set_option maxRecDepth 100000 in
theorem mX6_recorded (l : Launch) (E : EE) (B : Nat) (g : GS) (r : Int32) : CG l yX6_recorded cX6_recorded 2 (some .int) 2 41 E B [.ref (B + 0), .int r] g (some (.int (sX6_recorded g r).1)) ((sX6_recorded g r).2) := by
  refine mkI (own := RX6) (ty := .int) rfl (by decide) rfl (rfl) (Nat.le_of_ble_eq_true rfl) (fun P_ e_ s_ m_ a_ below meth cd Q X fin ls hl hJ => ?_)
  have hx := X.1
  have hb := X.2.1
  have hl : lv_has ls 2 [(0, .ref (B + 0)), (1, .int r)] := hl
  refine lv_iload_n hx hb dX6_recorded_0 rfl (lv_at hl 1 rfl) ?_
  refine lv_if_lt (tgt := 11) hx hb dX6_recorded_1 (by decide) (fun c_1 => ?_) (fun c_1 => ?_)
  · skip
    refine lv_iload_n hx hb dX6_recorded_11 rfl (lv_at hl 1 rfl) ?_
    have hs : sX6_recorded g r = (r, g) := by unfold sX6_recorded; rw [if_pos c_1]
    exact fin (by rw [hs]; dsimp only; exact hJ) (by rw [hs]) dX6_recorded_12
  · skip
    refine lv_aload_n hx hb dX6_recorded_4 rfl (lv_at hl 0 rfl) ?_
    refine gX6_22 X hJ  dX6_recorded_5 ?_
    refine kX6_210 X hJ (mX2_keepNoted l E B g g.2.1) rfl (by omega) (at_H rfl) hl.1 ⟨Nat.le_of_ble_eq_true rfl, Nat.le_of_ble_eq_true rfl⟩ ⟨Nat.le_refl _, Nat.le_refl _⟩ (rest := []) rfl (Nat.le_of_ble_eq_true rfl) dX6_recorded_8 (fun H locs hJ => ?_)
    refine lv_iload_n hx hb dX6_recorded_11 rfl (lv_at hl 1 rfl) ?_
    have hs : sX6_recorded g r = (r, upC g (sX2_keepNoted g.2.1)) := by unfold sX6_recorded; rw [if_neg c_1]
    exact fin (by rw [hs]; dsimp only; exact hJ) (by rw [hs]) dX6_recorded_12

