/-- the place of the spare state of the history -/
def Sp (u : Row) : Prop := sm (u 0) 6
theorem Sp_upd {u : Row} {j : Nat} {v : Int32} (h3 : ¬ j = 0) (h : Sp u) : Sp (upd u j v) := by
  unfold Sp
  rw [show upd u j v 0 = u 0 from if_neg (fun q => h3 q.symm)]
  exact h
theorem Sp_i2 {β : Type} {c : Prop} {i : Decidable c} {a b : β × Row} (h1 : Sp a.2) (h2 : Sp b.2) : Sp (@ite _ c i a b).2 := by cases i <;> assumption
theorem Sp_iv {c : Prop} {i : Decidable c} {a b : Row} (h1 : Sp a) (h2 : Sp b) : Sp (@ite _ c i a b) := by cases i <;> assumption
theorem Sp_p2 {β : Type} {v : β} {w : Row} (h : Sp w) : Sp (v, w).2 := h
def Gn (g : GS) : Prop := (∀ k, k < 11 → Cn (g.1 k)) ∧ Pd g.2.1 ∧ Sp g.2.1
theorem Gn_upW {g : GS} {k : Nat} {w : Row} (h : Gn g) (hw : Cn w) : Gn (upW g k w) := by
  refine ⟨fun k' hk' => ?_, h.2⟩
  by_cases q : k' = k
  · subst q; rw [upW_1]; exact hw
  · rw [upW_ne q]; exact h.1 k' hk'
theorem Gn_upC {g : GS} {u : Row} (h : Gn g) (hu : Pd u ∧ Sp u) : Gn (upC g u) := ⟨h.1, hu⟩
theorem Sp_sX4_clear {u : Row}  (h : Sp u) : Sp (sX4_clear u) := by
  unfold sX4_clear
  exact Sp_upd (by omega) (h)
theorem Sp_sX4_append {u : Row} {x : Int32}  (h : Sp u) : Sp (sX4_append u x) := by
  unfold sX4_append
  exact Sp_iv (h) (Sp_upd (by omega) (Sp_upd (by omega) (h)))
theorem Sp_bX4_appendNumber_3 {x : Int32}  : ∀ (n : Nat) (w3 : Row) (un : Int32), Sp w3 → Sp (bX4_appendNumber_3 x n w3 un) := by
  intro n
  induction n with
  | zero => intro w3 un h; exact h
  | succ n ih =>
    intro w3 un h
    rw [bX4_appendNumber_3]
    exact Sp_iv (h) (Sp_iv (ih _ _ (Sp_sX4_append (h))) (Sp_iv (ih _ _ (Sp_sX4_append (h))) (ih _ _ (h))))
theorem Sp_sX4_appendNumber {u : Row} {x : Int32}  (h : Sp u) : Sp (sX4_appendNumber u x) := by
  unfold sX4_appendNumber
  exact Sp_bX4_appendNumber_3 _ _ _ (h)
theorem Pd_clear_of {u : Row} (_ : Pd u) : Pd (sX4_clear u) := Pd_clear
def sX2_note (g : GS) : GS := upW g (2 + (nn (g.2.1 0))) (g.1 0)
set_option maxHeartbeats 4000000 in
set_option maxRecDepth 100000 in
theorem mX2_note (l : Launch) (E : EE) (B : Nat) (g : GS)  (hgn : Gn g) : CG l yX2_note cX2_note 2 none 3 83 E B [.ref (B + 83), .ref (B + wo 0)] g none (sX2_note g) := by
  refine mkV (own := RX2) rfl (by decide) rfl (Nat.le_of_ble_eq_true rfl) (fun P_ e_ s_ m_ a_ below meth cd Q X _ fin ls hl hJ => ?_)
  have hx := X.1
  have hb := X.2.1
  have hl : lv_has ls 2 [(0, .ref (B + 83)), (1, .ref (B + wo 0))] := hl
  refine lv_aload_n hx hb dX2_note_0 rfl (lv_at hl 0 rfl) ?_
  refine gX2_13 X hJ (w := g.2.1) rfl dX2_note_1 ?_
  refine lv_aload_n hx hb dX2_note_4 rfl (lv_at hl 0 rfl) ?_
  refine gX2_18 X hJ (w := g.2.1) rfl dX2_note_5 ?_
  refine cvt (y := nI (nn (g.2.1 0))) ((hgn.2.2).eq) ?_
  refine ld_states X hJ (j := nn (g.2.1 0)) (rfl) (by have := (hgn.2.2).le; omega) dX2_note_8 ?_
  have hsp := (hgn.2.2).le
  refine lv_aload_n hx hb dX2_note_9 rfl (lv_at hl 1 rfl) ?_
  refine kX2_22 X hJ (nX5_copyFrom l E B g (2 + (nn (g.2.1 0))) 0 (by omega) (by omega) (by omega)) rfl (lt_W0 (by omega)) (at_W (by omega) rfl) hl.1 ⟨Nat.le_of_ble_eq_true rfl, Nat.le_of_ble_eq_true rfl⟩ ⟨Nat.le_refl _, Nat.le_refl _⟩ (rest := []) rfl (Nat.le_of_ble_eq_true rfl) dX2_note_10 (fun H locs hJ => ?_)
  have hs : sX2_note g = upW g (2 + (nn (g.2.1 0))) (g.1 0) := by unfold sX2_note; rfl
  exact fin (by rw [hs]; exact hJ) dX2_note_13

def sX2_keepNoted (u : Row) : Row := upd (upd u (0) (((u 0) + 1) - ((u 0) + 1) / 7 * 7)) (1) (if 6 < (((upd u (0) (((u 0) + 1) - ((u 0) + 1) / 7 * 7)) 1) + 1) then 6 else (((upd u (0) (((u 0) + 1) - ((u 0) + 1) / 7 * 7)) 1) + 1))
set_option maxHeartbeats 4000000 in
set_option maxRecDepth 100000 in
theorem mX2_keepNoted (l : Launch) (E : EE) (B : Nat) (g : GS)  (u : Row) : CG l yX2_keepNoted cX2_keepNoted 1 none 1 21 E B [.ref (B + 83)] (upC g u) none (upC g (sX2_keepNoted u)) := by
  refine mkV (own := RX2) rfl (by decide) rfl (Nat.le_of_ble_eq_true rfl) (fun P_ e_ s_ m_ a_ below meth cd Q X _ fin ls hl hJ => ?_)
  have hx := X.1
  have hb := X.2.1
  have hl : lv_has ls 1 [(0, .ref (B + 83))] := hl
  refine lv_aload_n hx hb dX2_keepNoted_0 rfl (lv_at hl 0 rfl) ?_
  refine lv_aload_n hx hb dX2_keepNoted_1 rfl (lv_at hl 0 rfl) ?_
  refine gX2_18 X hJ (w := u) rfl dX2_keepNoted_2 ?_
  refine lv_iconst (v := 1) hx hb dX2_keepNoted_5 (by decide) ?_
  refine lv_iadd hx hb dX2_keepNoted_6 ?_
  refine lv_bipush (v := 7) hx hb dX2_keepNoted_7 (by decide) ?_
  refine lv_irem hx hb dX2_keepNoted_9 (by decide) ?_
  refine pX2_18 X hJ  dX2_keepNoted_10 (fun H locs hJ => ?_)
  refine lv_aload_n hx hb dX2_keepNoted_13 rfl (lv_at hl 0 rfl) ?_
  refine lv_aload_n hx hb dX2_keepNoted_14 rfl (lv_at hl 0 rfl) ?_
  refine gX2_26 X hJ (w := upd u (0) (((u 0) + 1) - ((u 0) + 1) / 7 * 7)) rfl dX2_keepNoted_15 ?_
  refine lv_iconst (v := 1) hx hb dX2_keepNoted_18 (by decide) ?_
  refine lv_iadd hx hb dX2_keepNoted_19 ?_
  refine lv_bipush (v := 6) hx hb dX2_keepNoted_20 (by decide) ?_
  refine rmin X tl_X2_29 hl.1 ⟨Nat.le_of_ble_eq_true rfl, Nat.le_of_ble_eq_true rfl⟩ ⟨Nat.le_refl _, Nat.le_refl _⟩ dX2_keepNoted_22 ?_
  refine pX2_26 X hJ  dX2_keepNoted_25 (fun H locs hJ => ?_)
  have hs : sX2_keepNoted u = upd (upd u (0) (((u 0) + 1) - ((u 0) + 1) / 7 * 7)) (1) (if 6 < (((upd u (0) (((u 0) + 1) - ((u 0) + 1) / 7 * 7)) 1) + 1) then 6 else (((upd u (0) (((u 0) + 1) - ((u 0) + 1) / 7 * 7)) 1) + 1)) := by unfold sX2_keepNoted; rfl
  exact fin (by rw [hs]; exact hJ) dX2_keepNoted_28

