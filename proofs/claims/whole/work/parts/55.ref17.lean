def Rr (r : Row) : Prop := Pt r ∧ sm (r 0) 6
theorem sm80_0 : sm (0 : Int32) 80 := ⟨by decide, by decide⟩
theorem Rr_1 {r : Row} (h : Rr r) : Rr (upd r (1) 0) := ⟨⟨sm80_0, h.1.2⟩, h.2⟩
theorem Rr_2 {r : Row} (h : Rr r) : Rr (upd r (2) 0) := ⟨⟨h.1.1, sm80_0⟩, h.2⟩
theorem Rr_readsOrder {r : Row} (h : Rr r) : Rr (sX7_readsOrder r).2 := ⟨(Pq_readsOrder (Pq0 h.1)).1, by rw [Kp_readsOrder (Kp_rf (r := r)) 0 (Or.inl (by omega))]; exact h.2⟩
theorem Rr_takes {r : Row} {x : Int32} (h : Rr r) : Rr (sX7_takes r x).2 := ⟨(Pq_takes (Pq0 h.1)).1, by rw [Kp_takes (Kp_rf (r := r)) 0 (Or.inl (by omega))]; exact h.2⟩
theorem Kp_fault {r0 r : Row} (h : Kp r0 r) : Kp r0 (sX7_fault r).2 := by
  have key : ∀ (n : Nat) (r : Row) (mo : Int32), Kp r0 r → Kp r0 (bX7_fault_7 n r mo).2 := by
    intro n
    induction n with
    | zero => intro r mo h; exact h
    | succ n ih =>
      intro r mo h
      rw [bX7_fault_7]
      by_cases c : mo = 0
      · rw [if_pos c]; exact Kp_i2 (Kp_p2 h) (Kp_p2 h)
      · rw [if_neg c]; exact Kp_i2 (Kp_p2 (Kp_readsOrder h)) (ih _ _ (Kp_takes (Kp_readsOrder h)))
  unfold sX7_fault
  exact key _ _ _ (Kp_upd (by omega) (by omega) h)
theorem Pt_fault {r : Row} (h : Pq 0 r) : Pq 0 (sX7_fault r).2 := by
  have key : ∀ (n : Nat) (r : Row) (mo : Int32), Pq 0 r → Pq 0 (bX7_fault_7 n r mo).2 := by
    intro n
    induction n with
    | zero => intro r mo h; exact h
    | succ n ih =>
      intro r mo h
      rw [bX7_fault_7]
      by_cases c : mo = 0
      · rw [if_pos c]; exact Pq_i2 (Pq_p2 h) (Pq_p2 h)
      · rw [if_neg c]; exact Pq_i2 (Pq_p2 (Pq_readsOrder h)) (ih _ _ (Pq_takes (Pq_readsOrder h)))
  unfold sX7_fault
  exact key _ _ _ (Pq_2 ⟨by decide, by decide⟩ (Nat.zero_le _) h)
theorem Rr_fault {r : Row} (h : Rr r) : Rr (sX7_fault r).2 := ⟨(Pt_fault (Pq0 h.1)).1, by rw [Kp_fault (Kp_rf (r := r)) 0 (Or.inl (by omega))]; exact h.2⟩
section OE
variable {g : GS} (he : sX7_orderError g = 0)
theorem oe98 (hk : g.2.2.2 3 = 98) (he : sX7_orderError g = 0) : sX7_bridgeError (g.2.2.1 0) (g.2.2.2 4) (g.2.2.2 5) (g.2.2.2 6) = 0 := by
  unfold sX7_orderError at he
  rw [if_pos hk] at he; exact he
theorem oe99 (h1 : ¬ g.2.2.2 3 = 98) (hk : g.2.2.2 3 = 99) (he : sX7_orderError g = 0) : sX7_cartError (g.2.2.1 0) (g.2.2.2 4) (g.2.2.2 6) = 0 := by
  unfold sX7_orderError at he
  rw [if_neg h1, if_pos hk] at he; exact he
theorem oe103 (h1 : ¬ g.2.2.2 3 = 98) (h2 : ¬ g.2.2.2 3 = 99) (hk : g.2.2.2 3 = 103) (he : sX7_orderError g = 0) : sX7_guessError (g.2.2.1 0) (g.2.2.2 4) (g.2.2.2 5) (g.2.2.2 6) = 0 := by
  unfold sX7_orderError at he
  rw [if_neg h1, if_neg h2, if_pos hk] at he; exact he
theorem oe104 (h1 : ¬ g.2.2.2 3 = 98) (h2 : ¬ g.2.2.2 3 = 99) (h3 : ¬ g.2.2.2 3 = 103) (hk : g.2.2.2 3 = 104) (he : sX7_orderError g = 0) : sX7_hintError (g.2.2.1 0) (g.2.2.2 4) (g.2.2.2 5) = 0 := by
  unfold sX7_orderError at he
  rw [if_neg h1, if_neg h2, if_neg h3, if_pos hk] at he; exact he
theorem oe108 (h1 : ¬ g.2.2.2 3 = 98) (h2 : ¬ g.2.2.2 3 = 99) (h3 : ¬ g.2.2.2 3 = 103) (h4 : ¬ g.2.2.2 3 = 104) (hk : g.2.2.2 3 = 108) (he : sX7_orderError g = 0) : sX7_leaveError (g.2.2.1 0) (g.2.2.2 4) = 0 := by
  unfold sX7_orderError at he
  rw [if_neg h1, if_neg h2, if_neg h3, if_neg h4, if_pos hk] at he; exact he
theorem oe112 (h1 : ¬ g.2.2.2 3 = 98) (h2 : ¬ g.2.2.2 3 = 99) (h3 : ¬ g.2.2.2 3 = 103) (h4 : ¬ g.2.2.2 3 = 104) (h5 : ¬ g.2.2.2 3 = 108) (he : sX7_orderError g = 0) : sX7_passError (g.2.2.1 0) (g.2.2.2 6) = 0 := by
  unfold sX7_orderError at he
  rw [if_neg h1, if_neg h2, if_neg h3, if_neg h4, if_neg h5] at he; exact he
end OE
def sX7_guess (g : GS) (x : Int32) (y : Int32) (z : Int32) : Int32 × GS := if sX7_guessError (g.2.2.1 0) x y z = 0 then (((sX7_guesses ((sX7_changes g).2.2.1 0) (nn x) (nn y) z).1, upS (sX7_changes g) 0 (sX7_guesses ((sX7_changes g).2.2.1 0) (nn x) (nn y) z).2)) else ((sX7_guessError (g.2.2.1 0) x y z, g))
set_option maxHeartbeats 4000000 in
set_option maxRecDepth 100000 in
theorem mX7_guess (l : Launch) (E : EE) (B : Nat) (g : GS) (x : Int32) (y : Int32) (z : Int32) (hgi : Gi g) : CG l yX7_guess cX7_guess 5 (some .int) 3 70 E B [.ref (B + 459), .int x, .int y, .int z] g (some (.int (sX7_guess g x y z).1)) ((sX7_guess g x y z).2) := by
  refine mkI (own := RX7) (ty := .int) rfl (by decide) rfl (rfl) (Nat.le_of_ble_eq_true rfl) (fun P_ e_ s_ m_ a_ below meth cd Q X fin ls hl hJ => ?_)
  have hx := X.1
  have hb := X.2.1
  have hl : lv_has ls 5 [(0, .ref (B + 459)), (1, .int x), (2, .int y), (3, .int z)] := hl
  refine lv_aload_n hx hb dX7_guess_0 rfl (lv_at hl 0 rfl) ?_
  refine lv_iload_n hx hb dX7_guess_1 rfl (lv_at hl 1 rfl) ?_
  refine lv_iload_n hx hb dX7_guess_2 rfl (lv_at hl 2 rfl) ?_
  refine lv_iload_n hx hb dX7_guess_3 rfl (lv_at hl 3 rfl) ?_
  refine kX7_132 X hJ (mX7_guessError l E B _ x y z (g.2.2.1 0) rfl (((hgi).gm).1 0 (by omega))) rfl (by omega) (at_M rfl) hl.1 ⟨Nat.le_of_ble_eq_true rfl, Nat.le_of_ble_eq_true rfl⟩ ⟨Nat.le_refl _, Nat.le_refl _⟩ (rest := []) rfl (Nat.le_of_ble_eq_true rfl) dX7_guess_4 (fun H locs hJ => ?_)
  refine lv_istore (lv' := [(4, .int (sX7_guessError (g.2.2.1 0) x y z)), (0, .ref (B + 459)), (1, .int x), (2, .int y), (3, .int z)]) hx hb dX7_guess_7 hl (by decide) rfl (fun ls hl => ?_)
  refine lv_iload hx hb dX7_guess_9 (lv_at hl 0 rfl) ?_
  refine lv_if_eq (tgt := 17) hx hb dX7_guess_11 (by decide) (fun c_11 => ?_) (fun c_11 => ?_)
  · skip
    have hgE := gE0 (hgi.gm.1 0 (by omega)) c_11
    have hC := isCart_of (hgi.gm.1 0 (by omega)).1 hgE.1
    have hC2 := hC.2.2
    have hB := (isBridge_of (hgi.gm.1 0 (by omega)).1 hgE.2.1).2.2
    have hl : lv_has ls 5 [(4, .int (sX7_guessError (g.2.2.1 0) x y z)), (0, .ref (B + 459)), (1, .int (nI (nn x))), (2, .int y), (3, .int z)] := by rw [← show x = nI (nn x) from (isCart_of (hgi.gm.1 0 (by omega)).1 (gE0 (hgi.gm.1 0 (by omega)) c_11).1).1]; exact hl
    have hl : lv_has ls 5 [(4, .int (sX7_guessError (g.2.2.1 0) x y z)), (0, .ref (B + 459)), (1, .int (nI (nn x))), (2, .int (nI (nn y))), (3, .int z)] := by rw [← show y = nI (nn y) from (isBridge_of (hgi.gm.1 0 (by omega)).1 (gE0 (hgi.gm.1 0 (by omega)) c_11).2.1).1]; exact hl
    refine lv_aload_n hx hb dX7_guess_17 rfl (lv_at hl 1 rfl) ?_
    refine kX7_117 X hJ (mX7_changes l E B g ((hgi).gm)) rfl (by omega) (at_M rfl) hl.1 ⟨Nat.le_of_ble_eq_true rfl, Nat.le_of_ble_eq_true rfl⟩ ⟨Nat.le_refl _, Nat.le_refl _⟩ (rest := []) rfl (Nat.le_of_ble_eq_true rfl) dX7_guess_18 (fun H locs hJ => ?_)
    refine lv_aload_n hx hb dX7_guess_21 rfl (lv_at hl 1 rfl) ?_
    refine lv_iload_n hx hb dX7_guess_22 rfl (lv_at hl 2 rfl) ?_
    refine lv_iload_n hx hb dX7_guess_23 rfl (lv_at hl 3 rfl) ?_
    refine lv_iload_n hx hb dX7_guess_24 rfl (lv_at hl 4 rfl) ?_
    refine kX7_135 X hJ (by have h := mX7_guesses l E B (sX7_changes g) (nn x) (nn y) z ((sX7_changes g).2.2.1 0) (by omega) (by omega) (((Gi_changes (hgi)).gm).1 0 (by omega)) (by rw [ch0]; exact (room hC.2.1 hgE.2.2.2.1 (hgi.1 0 (by omega))).1); rw [upS_self] at h; exact h) rfl (by omega) (at_M rfl) hl.1 ⟨Nat.le_of_ble_eq_true rfl, Nat.le_of_ble_eq_true rfl⟩ ⟨Nat.le_refl _, Nat.le_refl _⟩ (rest := []) rfl (Nat.le_of_ble_eq_true rfl) dX7_guess_25 (fun H locs hJ => ?_)
    have hs : sX7_guess g x y z = ((sX7_guesses ((sX7_changes g).2.2.1 0) (nn x) (nn y) z).1, upS (sX7_changes g) 0 (sX7_guesses ((sX7_changes g).2.2.1 0) (nn x) (nn y) z).2) := by unfold sX7_guess; rw [if_pos c_11]
    exact fin (by rw [hs]; dsimp only; exact hJ) (by rw [hs]) dX7_guess_28
  · skip
    refine lv_iload hx hb dX7_guess_14 (lv_at hl 0 rfl) ?_
    have hs : sX7_guess g x y z = (sX7_guessError (g.2.2.1 0) x y z, g) := by unfold sX7_guess; rw [if_neg c_11]
    exact fin (by rw [hs]; dsimp only; exact hJ) (by rw [hs]) dX7_guess_16

def sX7_does (g : GS) : Int32 × GS := if g.2.2.2 3 = 98 then (((sX7_builds (g.2.2.1 0) (g.2.2.2 4) (g.2.2.2 5) (g.2.2.2 6)).1, upS g 0 (sX7_builds (g.2.2.1 0) (g.2.2.2 4) (g.2.2.2 5) (g.2.2.2 6)).2)) else if g.2.2.2 3 = 99 then (((sX7_comes (g.2.2.1 0) (g.2.2.2 4) (g.2.2.2 6)).1, upS g 0 (sX7_comes (g.2.2.1 0) (g.2.2.2 4) (g.2.2.2 6)).2)) else if g.2.2.2 3 = 103 then (((sX7_guesses (g.2.2.1 0) (nn (g.2.2.2 4)) (nn (g.2.2.2 5)) (g.2.2.2 6)).1, upS g 0 (sX7_guesses (g.2.2.1 0) (nn (g.2.2.2 4)) (nn (g.2.2.2 5)) (g.2.2.2 6)).2)) else if g.2.2.2 3 = 104 then (((sX7_hints (g.2.2.1 0) (nn (g.2.2.2 4)) (nn (g.2.2.2 5))).1, upS g 0 (sX7_hints (g.2.2.1 0) (nn (g.2.2.2 4)) (nn (g.2.2.2 5))).2)) else if g.2.2.2 3 = 108 then (((sX7_leaves (g.2.2.1 0) (nn (g.2.2.2 4))).1, upS g 0 (sX7_leaves (g.2.2.1 0) (nn (g.2.2.2 4))).2)) else (((sX7_hours (g.2.2.1 0) (g.2.2.2 6)).1, upS g 0 (sX7_hours (g.2.2.1 0) (g.2.2.2 6)).2))
set_option maxHeartbeats 4000000 in
set_option maxRecDepth 100000 in
theorem mX7_does (l : Launch) (E : EE) (B : Nat) (g : GS)  (hgi : Gi g) (he : sX7_orderError g = 0) : CG l yX7_does cX7_does 1 (some .int) 7 172 E B [.ref (B + 459)] g (some (.int (sX7_does g).1)) ((sX7_does g).2) := by
  refine mkI (own := RX7) (ty := .int) rfl (by decide) rfl (rfl) (Nat.le_of_ble_eq_true rfl) (fun P_ e_ s_ m_ a_ below meth cd Q X fin ls hl hJ => ?_)
  have hx := X.1
  have hb := X.2.1
  have hl : lv_has ls 1 [(0, .ref (B + 459))] := hl
  refine lv_aload_n hx hb dX7_does_0 rfl (lv_at hl 0 rfl) ?_
  refine gX7_222 X hJ (w := g.2.2.2) rfl dX7_does_1 ?_
  by_cases c_4_98 : g.2.2.2 3 = 98
  · rw [c_4_98]
    refine lv_tableIn (tgt := 64) hx hb dX7_does_4 (by decide) (by decide) (off := 60) (by decide) (by decide) ?_
    refine lv_aload_n hx hb dX7_does_64 rfl (lv_at hl 0 rfl) ?_
    refine lv_aload_n hx hb dX7_does_65 rfl (lv_at hl 0 rfl) ?_
    refine gX7_210 X hJ (w := g.2.2.2) rfl dX7_does_66 ?_
    refine lv_aload_n hx hb dX7_does_69 rfl (lv_at hl 0 rfl) ?_
    refine gX7_216 X hJ (w := g.2.2.2) rfl dX7_does_70 ?_
    refine lv_aload_n hx hb dX7_does_73 rfl (lv_at hl 0 rfl) ?_
    refine gX7_219 X hJ (w := g.2.2.2) rfl dX7_does_74 ?_
    refine kX7_123 X hJ (by have h := mX7_builds l E B g (g.2.2.2 4) (g.2.2.2 5) (g.2.2.2 6) (g.2.2.1 0) (((hgi).gm).1 0 (by omega)) ((bE0 (hgi.gm.1 0 (by omega)).1 (oe98 c_4_98 he)).1) ((bE0 (hgi.gm.1 0 (by omega)).1 (oe98 c_4_98 he)).2.1); rw [upS_self] at h; exact h) rfl (by omega) (at_M rfl) hl.1 ⟨Nat.le_of_ble_eq_true rfl, Nat.le_of_ble_eq_true rfl⟩ ⟨Nat.le_refl _, Nat.le_refl _⟩ (rest := []) rfl (Nat.le_of_ble_eq_true rfl) dX7_does_77 (fun H locs hJ => ?_)
    have hs : sX7_does g = ((sX7_builds (g.2.2.1 0) (g.2.2.2 4) (g.2.2.2 5) (g.2.2.2 6)).1, upS g 0 (sX7_builds (g.2.2.1 0) (g.2.2.2 4) (g.2.2.2 5) (g.2.2.2 6)).2) := by unfold sX7_does; rw [if_pos c_4_98]
    exact fin (by rw [hs]; dsimp only; exact hJ) (by rw [hs]) dX7_does_80
  by_cases c_4_99 : g.2.2.2 3 = 99
  · rw [c_4_99]
    refine lv_tableIn (tgt := 81) hx hb dX7_does_4 (by decide) (by decide) (off := 77) (by decide) (by decide) ?_
    refine lv_aload_n hx hb dX7_does_81 rfl (lv_at hl 0 rfl) ?_
    refine lv_aload_n hx hb dX7_does_82 rfl (lv_at hl 0 rfl) ?_
    refine gX7_210 X hJ (w := g.2.2.2) rfl dX7_does_83 ?_
    refine lv_aload_n hx hb dX7_does_86 rfl (lv_at hl 0 rfl) ?_
    refine gX7_219 X hJ (w := g.2.2.2) rfl dX7_does_87 ?_
    refine kX7_129 X hJ (by have h := mX7_comes l E B g (g.2.2.2 4) (g.2.2.2 6) (g.2.2.1 0) (((hgi).gm).1 0 (by omega)) ((cE0 (hgi.gm.1 0 (by omega)).1 (oe99 c_4_98 c_4_99 he)).1); rw [upS_self] at h; exact h) rfl (by omega) (at_M rfl) hl.1 ⟨Nat.le_of_ble_eq_true rfl, Nat.le_of_ble_eq_true rfl⟩ ⟨Nat.le_refl _, Nat.le_refl _⟩ (rest := []) rfl (Nat.le_of_ble_eq_true rfl) dX7_does_90 (fun H locs hJ => ?_)
    have hs : sX7_does g = ((sX7_comes (g.2.2.1 0) (g.2.2.2 4) (g.2.2.2 6)).1, upS g 0 (sX7_comes (g.2.2.1 0) (g.2.2.2 4) (g.2.2.2 6)).2) := by unfold sX7_does; rw [if_neg c_4_98, if_pos c_4_99]
    exact fin (by rw [hs]; dsimp only; exact hJ) (by rw [hs]) dX7_does_93
  by_cases c_4_103 : g.2.2.2 3 = 103
  · rw [c_4_103]
    refine lv_tableIn (tgt := 94) hx hb dX7_does_4 (by decide) (by decide) (off := 90) (by decide) (by decide) ?_
    have hgE := gE0 (hgi.gm.1 0 (by omega)) (oe103 c_4_98 c_4_99 c_4_103 he)
    have hC := isCart_of (hgi.gm.1 0 (by omega)).1 hgE.1
    have hC2 := hC.2.2
    have hB := (isBridge_of (hgi.gm.1 0 (by omega)).1 hgE.2.1).2.2
    refine lv_aload_n hx hb dX7_does_94 rfl (lv_at hl 0 rfl) ?_
    refine lv_aload_n hx hb dX7_does_95 rfl (lv_at hl 0 rfl) ?_
    refine gX7_210 X hJ (w := g.2.2.2) rfl dX7_does_96 ?_
    refine cvt (y := nI (nn (g.2.2.2 4))) ((isCart_of (hgi.gm.1 0 (by omega)).1 hgE.1).1) ?_
    refine lv_aload_n hx hb dX7_does_99 rfl (lv_at hl 0 rfl) ?_
    refine gX7_216 X hJ (w := g.2.2.2) rfl dX7_does_100 ?_
    refine cvt (y := nI (nn (g.2.2.2 5))) ((isBridge_of (hgi.gm.1 0 (by omega)).1 hgE.2.1).1) ?_
    refine lv_aload_n hx hb dX7_does_103 rfl (lv_at hl 0 rfl) ?_
    refine gX7_219 X hJ (w := g.2.2.2) rfl dX7_does_104 ?_
    refine kX7_135 X hJ (by have h := mX7_guesses l E B g (nn (g.2.2.2 4)) (nn (g.2.2.2 5)) (g.2.2.2 6) (g.2.2.1 0) (by omega) (by omega) (((hgi).gm).1 0 (by omega)) ((room hC.2.1 hgE.2.2.2.1 (hgi.1 0 (by omega))).1); rw [upS_self] at h; exact h) rfl (by omega) (at_M rfl) hl.1 ⟨Nat.le_of_ble_eq_true rfl, Nat.le_of_ble_eq_true rfl⟩ ⟨Nat.le_refl _, Nat.le_refl _⟩ (rest := []) rfl (Nat.le_of_ble_eq_true rfl) dX7_does_107 (fun H locs hJ => ?_)
    have hs : sX7_does g = ((sX7_guesses (g.2.2.1 0) (nn (g.2.2.2 4)) (nn (g.2.2.2 5)) (g.2.2.2 6)).1, upS g 0 (sX7_guesses (g.2.2.1 0) (nn (g.2.2.2 4)) (nn (g.2.2.2 5)) (g.2.2.2 6)).2) := by unfold sX7_does; rw [if_neg c_4_98, if_neg c_4_99, if_pos c_4_103]
    exact fin (by rw [hs]; dsimp only; exact hJ) (by rw [hs]) dX7_does_110
  by_cases c_4_104 : g.2.2.2 3 = 104
  · rw [c_4_104]
    refine lv_tableIn (tgt := 111) hx hb dX7_does_4 (by decide) (by decide) (off := 107) (by decide) (by decide) ?_
    have hgE := hE0 (oe104 c_4_98 c_4_99 c_4_103 c_4_104 he)
    have hC := isCart_of (hgi.gm.1 0 (by omega)).1 hgE.1
    have hC2 := hC.2.2
    have hB := (isBridge_of (hgi.gm.1 0 (by omega)).1 hgE.2).2.2
    refine lv_aload_n hx hb dX7_does_111 rfl (lv_at hl 0 rfl) ?_
    refine lv_aload_n hx hb dX7_does_112 rfl (lv_at hl 0 rfl) ?_
    refine gX7_210 X hJ (w := g.2.2.2) rfl dX7_does_113 ?_
    refine cvt (y := nI (nn (g.2.2.2 4))) ((isCart_of (hgi.gm.1 0 (by omega)).1 hgE.1).1) ?_
    refine lv_aload_n hx hb dX7_does_116 rfl (lv_at hl 0 rfl) ?_
    refine gX7_216 X hJ (w := g.2.2.2) rfl dX7_does_117 ?_
    refine cvt (y := nI (nn (g.2.2.2 5))) ((isBridge_of (hgi.gm.1 0 (by omega)).1 hgE.2).1) ?_
    refine kX7_147 X hJ (by have h := mX7_hints l E B g (nn (g.2.2.2 4)) (nn (g.2.2.2 5)) (g.2.2.1 0) (by omega) (by omega) (((hgi).gm).1 0 (by omega)); rw [upS_self] at h; exact h) rfl (by omega) (at_M rfl) hl.1 ⟨Nat.le_of_ble_eq_true rfl, Nat.le_of_ble_eq_true rfl⟩ ⟨Nat.le_refl _, Nat.le_refl _⟩ (rest := []) rfl (Nat.le_of_ble_eq_true rfl) dX7_does_120 (fun H locs hJ => ?_)
    have hs : sX7_does g = ((sX7_hints (g.2.2.1 0) (nn (g.2.2.2 4)) (nn (g.2.2.2 5))).1, upS g 0 (sX7_hints (g.2.2.1 0) (nn (g.2.2.2 4)) (nn (g.2.2.2 5))).2) := by unfold sX7_does; rw [if_neg c_4_98, if_neg c_4_99, if_neg c_4_103, if_pos c_4_104]
    exact fin (by rw [hs]; dsimp only; exact hJ) (by rw [hs]) dX7_does_123
  by_cases c_4_108 : g.2.2.2 3 = 108
  · rw [c_4_108]
    refine lv_tableIn (tgt := 124) hx hb dX7_does_4 (by decide) (by decide) (off := 120) (by decide) (by decide) ?_
    have hgE := lE0 (oe108 c_4_98 c_4_99 c_4_103 c_4_104 c_4_108 he)
    have hC := isCart_of (hgi.gm.1 0 (by omega)).1 hgE.1
    have hC2 := hC.2.2
    refine lv_aload_n hx hb dX7_does_124 rfl (lv_at hl 0 rfl) ?_
    refine lv_aload_n hx hb dX7_does_125 rfl (lv_at hl 0 rfl) ?_
    refine gX7_210 X hJ (w := g.2.2.2) rfl dX7_does_126 ?_
    refine cvt (y := nI (nn (g.2.2.2 4))) ((isCart_of (hgi.gm.1 0 (by omega)).1 hgE.1).1) ?_
    refine kX7_141 X hJ (by have h := mX7_leaves l E B g (nn (g.2.2.2 4)) (g.2.2.1 0) (by omega) (((hgi).gm).1 0 (by omega)); rw [upS_self] at h; exact h) rfl (by omega) (at_M rfl) hl.1 ⟨Nat.le_of_ble_eq_true rfl, Nat.le_of_ble_eq_true rfl⟩ ⟨Nat.le_refl _, Nat.le_refl _⟩ (rest := []) rfl (Nat.le_of_ble_eq_true rfl) dX7_does_129 (fun H locs hJ => ?_)
    have hs : sX7_does g = ((sX7_leaves (g.2.2.1 0) (nn (g.2.2.2 4))).1, upS g 0 (sX7_leaves (g.2.2.1 0) (nn (g.2.2.2 4))).2) := by unfold sX7_does; rw [if_neg c_4_98, if_neg c_4_99, if_neg c_4_103, if_neg c_4_104, if_pos c_4_108]
    exact fin (by rw [hs]; dsimp only; exact hJ) (by rw [hs]) dX7_does_132
  refine rtabOut (tgt := 133) hx hb dX7_does_4 (by decide) (fun h1 h2 => ?_) ?_
  · have e98 := ne_toInt (n := 98) c_4_98 (by decide); have e99 := ne_toInt (n := 99) c_4_99 (by decide); have e103 := ne_toInt (n := 103) c_4_103 (by decide); have e104 := ne_toInt (n := 104) c_4_104 (by decide); have e108 := ne_toInt (n := 108) c_4_108 (by decide)
    rcases (show (g.2.2.2 3 : Int32).toInt = 100 ∨ (g.2.2.2 3 : Int32).toInt = 101 ∨ (g.2.2.2 3 : Int32).toInt = 102 ∨ (g.2.2.2 3 : Int32).toInt = 105 ∨ (g.2.2.2 3 : Int32).toInt = 106 ∨ (g.2.2.2 3 : Int32).toInt = 107 by omega) with hq | hq | hq | hq | hq | hq <;> (rw [hq]; decide)
  refine lv_aload_n hx hb dX7_does_133 rfl (lv_at hl 0 rfl) ?_
  refine lv_iconst (v := 0) hx hb dX7_does_134 (by decide) ?_
  refine lv_aload_n hx hb dX7_does_135 rfl (lv_at hl 0 rfl) ?_
  refine gX7_219 X hJ (w := g.2.2.2) rfl dX7_does_136 ?_
  refine kX7_153 X hJ (by have h := mX7_hours l E B g 0 (g.2.2.2 6) (g.2.2.1 0) (by omega) (((hgi).gm).1 0 (by omega)) ((pE0 (oe112 c_4_98 c_4_99 c_4_103 c_4_104 c_4_108 he)).1); rw [upS_self] at h; exact h) rfl (by omega) (at_M rfl) hl.1 ⟨Nat.le_of_ble_eq_true rfl, Nat.le_of_ble_eq_true rfl⟩ ⟨Nat.le_refl _, Nat.le_refl _⟩ (rest := []) rfl (Nat.le_of_ble_eq_true rfl) dX7_does_139 (fun H locs hJ => ?_)
  have hs : sX7_does g = ((sX7_hours (g.2.2.1 0) (g.2.2.2 6)).1, upS g 0 (sX7_hours (g.2.2.1 0) (g.2.2.2 6)).2) := by unfold sX7_does; rw [if_neg c_4_98, if_neg c_4_99, if_neg c_4_103, if_neg c_4_104, if_neg c_4_108]
  exact fin (by rw [hs]; dsimp only; exact hJ) (by rw [hs]) dX7_does_142

theorem Gi_does {g : GS} (h : Gi g) (he : sX7_orderError g = 0) : Gi (sX7_does g).2 := by
  have hI := h.1 0 (by omega)
  have hR := hI.1
  unfold sX7_does
  by_cases h1 : g.2.2.2 3 = 98
  · rw [if_pos h1]
    have a := bE0 hR.1 (oe98 h1 he)
    exact Gi_upS h (Inv_builds a.1 a.2.2.1 a.2.2.2.1 a.2.2.2.2.1 hI)
  rw [if_neg h1]
  by_cases h2 : g.2.2.2 3 = 99
  · rw [if_pos h2]
    have a := cE0 hR.1 (oe99 h1 h2 he)
    exact Gi_upS h (Inv_comes a.1 a.2.1 a.2.2 hI)
  rw [if_neg h2]
  by_cases h3 : g.2.2.2 3 = 103
  · rw [if_pos h3]
    have a := gE0 hR (oe103 h1 h2 h3 he)
    have b := isCart_of hR.1 a.1
    have c := isBridge_of hR.1 a.2.1
    have d := (hR.2.2.1 _ c.2.2).2.2.2
    have e := (room b.2.1 a.2.2.2.1 hI).1
    rw [guesses_eq e]
    exact Gi_upS h (Inv_gsw b.2.1 a.2.2.2.1 c.2.1 (sm_i a.2.2.1.1 (by have := a.2.2.1.2; omega)) hI)
  rw [if_neg h3]
  by_cases h4 : g.2.2.2 3 = 104
  · rw [if_pos h4]
    have q := oe104 h1 h2 h3 h4 he
    have a := hE0 q
    have b := isCart_of hR.1 a.1
    have c := isBridge_of hR.1 a.2
    have d := hE1 q
    exact Gi_upS h (Inv_hints b.2.1 c.2.1 d.2.1 d.2.2 hI)
  rw [if_neg h4]
  by_cases h5 : g.2.2.2 3 = 108
  · rw [if_pos h5]
    have a := lE0 (oe108 h1 h2 h3 h4 h5 he)
    exact Gi_upS h (Inv_stops (isCart_of hR.1 a.1).2.1 hI)
  rw [if_neg h5]
  exact Gi_upS h (Inv_hours hI)
theorem does_r {g : GS} : (sX7_does g).2.2.2.2 = g.2.2.2 := by
  unfold sX7_does
  by_cases h1 : g.2.2.2 3 = 98
  · rw [if_pos h1]; rfl
  rw [if_neg h1]
  by_cases h2 : g.2.2.2 3 = 99
  · rw [if_pos h2]; rfl
  rw [if_neg h2]
  by_cases h3 : g.2.2.2 3 = 103
  · rw [if_pos h3]; rfl
  rw [if_neg h3]
  by_cases h4 : g.2.2.2 3 = 104
  · rw [if_pos h4]; rfl
  rw [if_neg h4]
  by_cases h5 : g.2.2.2 3 = 108
  · rw [if_pos h5]; rfl
  rw [if_neg h5]; rfl
theorem nn_zero : nn (0 : Int32) = 0 := by decide
theorem co_mu1 {g : GS} {mo : Int32} {n : Nat} (hmo : b01 mo) (c : ¬ mo = 0) (h : Gi g) (hm : nn mo + (80 - nn (g.2.2.2 2)) < n + 1) : nn (0 : Int32) + (80 - nn ((upR g (sX7_readsOrder g.2.2.2).2).2.2.2 2)) < n := by
  have a : Pq (nn (g.2.2.2 2)) (sX7_readsOrder g.2.2.2).2 := Pq_readsOrder ⟨h.2.1, Nat.le_refl _⟩
  have b := a.2
  have d := b01_1 hmo c
  have e := nn_zero
  show nn (0 : Int32) + (80 - nn ((sX7_readsOrder g.2.2.2).2 2)) < n
  omega
theorem co_mu2 {g : GS} {mo m' : Int32} {n : Nat} (hm' : nn m' ≤ 1) (hmo : b01 mo) (c : ¬ mo = 0) (h : Gi g) (c33 : ¬ (sX7_readsOrder g.2.2.2).1 = 0) (hm : nn mo + (80 - nn (g.2.2.2 2)) < n + 1) :
    nn m' + (80 - nn ((upR ((sX7_does (upR g (sX7_readsOrder g.2.2.2).2)).2) (sX7_takes (((sX7_does (upR g (sX7_readsOrder g.2.2.2).2)).2).2.2.2) 59).2).2.2.2 2)) < n := by
  have e : ((sX7_does (upR g (sX7_readsOrder g.2.2.2).2)).2).2.2.2 = (sX7_readsOrder g.2.2.2).2 := does_r
  have a : Pq (nn (g.2.2.2 2) + 1) (sX7_readsOrder g.2.2.2).2 := (Pq_rd ⟨h.2.1, Nat.le_refl _⟩).2 c33
  have b := Pq_takes (x := 59) a
  have b2 := b.2
  have b3 := b.1.2.le
  have d := b01_1 hmo c
  show nn m' + (80 - nn ((sX7_takes (((sX7_does (upR g (sX7_readsOrder g.2.2.2).2)).2).2.2.2) 59).2 2)) < n
  rw [e]
  omega
def bX7_carryOut_25  : Nat → GS → Nat → Int32 → Int32 × GS
  | 0, g25, _, _ => (0, g25)
  | n + 1, g25, p, mo => if mo = 0 then ((nI p, upR g25 (upd (g25.2.2.2) (1) 0))) else (if (sX7_readsOrder g25.2.2.2).1 = 0 then (bX7_carryOut_25  n (upR g25 (sX7_readsOrder g25.2.2.2).2) (p + 0) 0) else (if sX7_orderError (upR g25 (sX7_readsOrder g25.2.2.2).2) = 0 then (if (sX7_takes (((sX7_does (upR g25 (sX7_readsOrder g25.2.2.2).2)).2).2.2.2) 59).1 = 0 then (bX7_carryOut_25  n (upR ((sX7_does (upR g25 (sX7_readsOrder g25.2.2.2).2)).2) (sX7_takes (((sX7_does (upR g25 (sX7_readsOrder g25.2.2.2).2)).2).2.2.2) 59).2) (p + 1) 0) else (bX7_carryOut_25  n (upR ((sX7_does (upR g25 (sX7_readsOrder g25.2.2.2).2)).2) (sX7_takes (((sX7_does (upR g25 (sX7_readsOrder g25.2.2.2).2)).2).2.2.2) 59).2) (p + 1) 1)) else (bX7_carryOut_25  n (upR g25 (sX7_readsOrder g25.2.2.2).2) (p + 0) 0)))
def sX7_carryOut (g : GS) : Int32 × GS := if (sX7_fault g.2.2.2).1 = (-6) then (bX7_carryOut_25  82 (upR (sX7_changes (upR g (sX7_fault g.2.2.2).2)) (upd ((sX7_changes (upR g (sX7_fault g.2.2.2).2)).2.2.2) (2) 0)) 0 1) else (((-3), upR g (sX7_fault g.2.2.2).2))
set_option maxHeartbeats 4000000 in
set_option maxRecDepth 100000 in
theorem mX7_carryOut (l : Launch) (E : EE) (B : Nat) (g : GS)  (hgi : Gi g) : CG l yX7_carryOut cX7_carryOut 5 (some .int) 8 192 E B [.ref (B + 459)] g (some (.int (sX7_carryOut g).1)) ((sX7_carryOut g).2) := by
  refine mkI (own := RX7) (ty := .int) rfl (by decide) rfl (rfl) (Nat.le_of_ble_eq_true rfl) (fun P_ e_ s_ m_ a_ below meth cd Q X fin ls hl hJ => ?_)
  have hx := X.1
  have hb := X.2.1
  have hl : lv_has ls 5 [(0, .ref (B + 459))] := hl
  have bk_25 : ∀ (n : Nat) (g25 : GS)  (p : Nat)  (mo : Int32), nn mo + (80 - nn (g25.2.2.2 2)) < n → (Gi g25) → (b01 mo) → ∀ (H : Heap) (locs : List Loc) (ls : Array Slot), JG E B s_ (g25) H locs → lv_has ls 5 [(0, .ref (B + 459)), (1, .int (nI p)), (2, .int mo)] → sX7_carryOut g = bX7_carryOut_25  n g25 p mo → W P_ l e_ (rmm 8 192 0 0) s_ m_ a_ below meth cd H locs 0 0 Q (F0 m_ 25 ls []) := by
    intro n
    induction n with
    | zero => intro g25 p mo hm; exact absurd hm (Nat.not_lt_zero _)
    | succ n ih =>
      intro g25 p mo hm hgi hmo H locs ls hJ hl hs
      refine lv_iload_n hx hb dX7_carryOut_25 rfl (lv_at hl 2 rfl) ?_
      refine lv_if_eq (tgt := 98) hx hb dX7_carryOut_26 (by decide) (fun c_26 => ?_) (fun c_26 => ?_)
      · skip
        refine lv_aload_n hx hb dX7_carryOut_98 rfl (lv_at hl 0 rfl) ?_
        refine lv_iconst (v := 0) hx hb dX7_carryOut_99 (by decide) ?_
        have hJ : JG E B s_ (upR g25 g25.2.2.2) _ _ := hJ
        refine pX7_156 X hJ  dX7_carryOut_100 (fun H locs hJ => ?_)
        refine lv_iload_n hx hb dX7_carryOut_103 rfl (lv_at hl 1 rfl) ?_
        have hs : sX7_carryOut g = (nI p, upR g25 (upd (g25.2.2.2) (1) 0)) := hs.trans (by rw [bX7_carryOut_25, if_pos c_26])
        exact fin (by rw [hs]; dsimp only; exact hJ) (by rw [hs]) dX7_carryOut_104
      · skip
        refine lv_aload_n hx hb dX7_carryOut_29 rfl (lv_at hl 0 rfl) ?_
        refine kX7_240 X hJ (mX7_readsOrder l E B g25 g25.2.2.2 (Pq0 ((hgi).gm).2.1)) rfl (by omega) (at_M rfl) hl.1 ⟨Nat.le_of_ble_eq_true rfl, Nat.le_of_ble_eq_true rfl⟩ ⟨Nat.le_refl _, Nat.le_refl _⟩ (rest := []) rfl (Nat.le_of_ble_eq_true rfl) dX7_carryOut_30 (fun H locs hJ => ?_)
        refine lv_if_eq (tgt := 47) hx hb dX7_carryOut_33 (by decide) (fun c_33 => ?_) (fun c_33 => ?_)
        · skip
          refine lv_iconst (v := 0) hx hb dX7_carryOut_47 (by decide) ?_
          refine lv_istore_n (lv' := [(3, .int 0), (0, .ref (B + 459)), (1, .int (nI p)), (2, .int mo)]) hx hb dX7_carryOut_48 rfl hl (by decide) rfl (fun ls hl => ?_)
          refine lv_iload_n hx hb dX7_carryOut_49 rfl (lv_at hl 0 rfl) ?_
          refine lv_if_eq (tgt := 60) hx hb dX7_carryOut_50 (by decide) (fun c_50 => ?_) (fun c_50 => ?_)
          · skip
            refine lv_bipush (v := (-6)) hx hb dX7_carryOut_60 (by decide) ?_
            refine lv_istore (lv' := [(4, .int (-6)), (3, .int 0), (0, .ref (B + 459)), (1, .int (nI p)), (2, .int mo)]) hx hb dX7_carryOut_62 hl (by decide) rfl (fun ls hl => ?_)
            refine lv_iload_n hx hb dX7_carryOut_64 rfl (lv_at hl 3 rfl) ?_
            refine lv_iload_n hx hb dX7_carryOut_65 rfl (lv_at hl 1 rfl) ?_
            refine lv_if_eq (tgt := 73) hx hb dX7_carryOut_66 (by decide) (fun c_66 => ?_) (fun c_66 => ?_)
            · skip
              refine lv_iconst (v := 0) hx hb dX7_carryOut_73 (by decide) ?_
              refine xiadd (z := nI (p + 0)) hx hb dX7_carryOut_74 (nI_add p 0) ?_
              refine lv_istore_n (lv' := [(1, .int (nI (p + 0))), (4, .int (-6)), (3, .int 0), (0, .ref (B + 459)), (2, .int mo)]) hx hb dX7_carryOut_75 rfl hl (by decide) rfl (fun ls hl => ?_)
              refine lv_iload_n hx hb dX7_carryOut_76 rfl (lv_at hl 2 rfl) ?_
              refine lv_if_eq (tgt := 93) hx hb dX7_carryOut_77 (by decide) (fun c_77 => ?_) (fun c_77 => ?_)
              · skip
                refine lv_iconst (v := 0) hx hb dX7_carryOut_93 (by decide) ?_
                refine lv_istore_n (lv' := [(2, .int 0), (1, .int (nI (p + 0))), (4, .int (-6)), (3, .int 0), (0, .ref (B + 459))]) hx hb dX7_carryOut_94 rfl hl (by decide) rfl (fun ls hl => ?_)
                refine lv_goto (tgt := 25) hx hb dX7_carryOut_95 (by decide) ?_
                have hs : sX7_carryOut g = bX7_carryOut_25  n (upR g25 (sX7_readsOrder g25.2.2.2).2) (p + 0) 0 := hs.trans (by rw [bX7_carryOut_25, if_neg c_26, if_pos c_33])
                exact ih (upR g25 (sX7_readsOrder g25.2.2.2).2) (p + 0) 0 (co_mu1 hmo c_26 hgi hm) (Gi_upR (hgi) (Rr_readsOrder ((hgi).2))) (by first | exact Or.inl rfl | exact Or.inr rfl) _ _ _ hJ (lv_sub hl [4, 1, 0] rfl) hs
              · exact absurd c_77 (by decide)
            · exact absurd c_66 (by decide)
          · exact absurd c_50 (by decide)
        · skip
          refine lv_aload_n hx hb dX7_carryOut_36 rfl (lv_at hl 0 rfl) ?_
          refine kX7_246 X hJ (mX7_orderError l E B (upR g25 (sX7_readsOrder g25.2.2.2).2) ((Gi_upR (hgi) (Rr_readsOrder ((hgi).2))).gm)) rfl (by omega) (at_M rfl) hl.1 ⟨Nat.le_of_ble_eq_true rfl, Nat.le_of_ble_eq_true rfl⟩ ⟨Nat.le_refl _, Nat.le_refl _⟩ (rest := []) rfl (Nat.le_of_ble_eq_true rfl) dX7_carryOut_37 (fun H locs hJ => ?_)
          refine lv_if_ne (tgt := 47) hx hb dX7_carryOut_40 (by decide) (fun c_40 => ?_) (fun c_40 => ?_)
          · skip
            refine lv_iconst (v := 0) hx hb dX7_carryOut_47 (by decide) ?_
            refine lv_istore_n (lv' := [(3, .int 0), (0, .ref (B + 459)), (1, .int (nI p)), (2, .int mo)]) hx hb dX7_carryOut_48 rfl hl (by decide) rfl (fun ls hl => ?_)
            refine lv_iload_n hx hb dX7_carryOut_49 rfl (lv_at hl 0 rfl) ?_
            refine lv_if_eq (tgt := 60) hx hb dX7_carryOut_50 (by decide) (fun c_50 => ?_) (fun c_50 => ?_)
            · skip
              refine lv_bipush (v := (-6)) hx hb dX7_carryOut_60 (by decide) ?_
              refine lv_istore (lv' := [(4, .int (-6)), (3, .int 0), (0, .ref (B + 459)), (1, .int (nI p)), (2, .int mo)]) hx hb dX7_carryOut_62 hl (by decide) rfl (fun ls hl => ?_)
              refine lv_iload_n hx hb dX7_carryOut_64 rfl (lv_at hl 3 rfl) ?_
              refine lv_iload_n hx hb dX7_carryOut_65 rfl (lv_at hl 1 rfl) ?_
              refine lv_if_eq (tgt := 73) hx hb dX7_carryOut_66 (by decide) (fun c_66 => ?_) (fun c_66 => ?_)
              · skip
                refine lv_iconst (v := 0) hx hb dX7_carryOut_73 (by decide) ?_
                refine xiadd (z := nI (p + 0)) hx hb dX7_carryOut_74 (nI_add p 0) ?_
                refine lv_istore_n (lv' := [(1, .int (nI (p + 0))), (4, .int (-6)), (3, .int 0), (0, .ref (B + 459)), (2, .int mo)]) hx hb dX7_carryOut_75 rfl hl (by decide) rfl (fun ls hl => ?_)
                refine lv_iload_n hx hb dX7_carryOut_76 rfl (lv_at hl 2 rfl) ?_
                refine lv_if_eq (tgt := 93) hx hb dX7_carryOut_77 (by decide) (fun c_77 => ?_) (fun c_77 => ?_)
                · skip
                  refine lv_iconst (v := 0) hx hb dX7_carryOut_93 (by decide) ?_
                  refine lv_istore_n (lv' := [(2, .int 0), (1, .int (nI (p + 0))), (4, .int (-6)), (3, .int 0), (0, .ref (B + 459))]) hx hb dX7_carryOut_94 rfl hl (by decide) rfl (fun ls hl => ?_)
                  refine lv_goto (tgt := 25) hx hb dX7_carryOut_95 (by decide) ?_
                  have hs : sX7_carryOut g = bX7_carryOut_25  n (upR g25 (sX7_readsOrder g25.2.2.2).2) (p + 0) 0 := hs.trans (by rw [bX7_carryOut_25, if_neg c_26, if_neg c_33, if_neg c_40])
                  exact ih (upR g25 (sX7_readsOrder g25.2.2.2).2) (p + 0) 0 (co_mu1 hmo c_26 hgi hm) (Gi_upR (hgi) (Rr_readsOrder ((hgi).2))) (by first | exact Or.inl rfl | exact Or.inr rfl) _ _ _ hJ (lv_sub hl [4, 1, 0] rfl) hs
                · exact absurd c_77 (by decide)
              · exact absurd c_66 (by decide)
            · exact absurd c_50 (by decide)
          · skip
            refine lv_iconst (v := 1) hx hb dX7_carryOut_43 (by decide) ?_
            refine lv_goto (tgt := 48) hx hb dX7_carryOut_44 (by decide) ?_
            refine lv_istore_n (lv' := [(3, .int 1), (0, .ref (B + 459)), (1, .int (nI p)), (2, .int mo)]) hx hb dX7_carryOut_48 rfl hl (by decide) rfl (fun ls hl => ?_)
            refine lv_iload_n hx hb dX7_carryOut_49 rfl (lv_at hl 0 rfl) ?_
            refine lv_if_eq (tgt := 60) hx hb dX7_carryOut_50 (by decide) (fun c_50 => ?_) (fun c_50 => ?_)
            · exact absurd c_50 (by decide)
            · skip
              refine lv_aload_n hx hb dX7_carryOut_53 rfl (lv_at hl 1 rfl) ?_
              refine kX7_249 X hJ (mX7_does l E B (upR g25 (sX7_readsOrder g25.2.2.2).2) (Gi_upR (hgi) (Rr_readsOrder ((hgi).2))) (by assumption)) rfl (by omega) (at_M rfl) hl.1 ⟨Nat.le_of_ble_eq_true rfl, Nat.le_of_ble_eq_true rfl⟩ ⟨Nat.le_refl _, Nat.le_refl _⟩ (rest := []) rfl (Nat.le_of_ble_eq_true rfl) dX7_carryOut_54 (fun H locs hJ => ?_)
              refine lv_goto (tgt := 62) hx hb dX7_carryOut_57 (by decide) ?_
              refine lv_istore (lv' := [(4, .int ((sX7_does (upR g25 (sX7_readsOrder g25.2.2.2).2)).1)), (3, .int 1), (0, .ref (B + 459)), (1, .int (nI p)), (2, .int mo)]) hx hb dX7_carryOut_62 hl (by decide) rfl (fun ls hl => ?_)
              refine lv_iload_n hx hb dX7_carryOut_64 rfl (lv_at hl 3 rfl) ?_
              refine lv_iload_n hx hb dX7_carryOut_65 rfl (lv_at hl 1 rfl) ?_
              refine lv_if_eq (tgt := 73) hx hb dX7_carryOut_66 (by decide) (fun c_66 => ?_) (fun c_66 => ?_)
              · exact absurd c_66 (by decide)
              · skip
                refine lv_iconst (v := 1) hx hb dX7_carryOut_69 (by decide) ?_
                refine lv_goto (tgt := 74) hx hb dX7_carryOut_70 (by decide) ?_
                refine xiadd (z := nI (p + 1)) hx hb dX7_carryOut_74 (nI_add p 1) ?_
                refine lv_istore_n (lv' := [(1, .int (nI (p + 1))), (4, .int ((sX7_does (upR g25 (sX7_readsOrder g25.2.2.2).2)).1)), (3, .int 1), (0, .ref (B + 459)), (2, .int mo)]) hx hb dX7_carryOut_75 rfl hl (by decide) rfl (fun ls hl => ?_)
                refine lv_iload_n hx hb dX7_carryOut_76 rfl (lv_at hl 2 rfl) ?_
                refine lv_if_eq (tgt := 93) hx hb dX7_carryOut_77 (by decide) (fun c_77 => ?_) (fun c_77 => ?_)
                · exact absurd c_77 (by decide)
                · skip
                  refine lv_aload_n hx hb dX7_carryOut_80 rfl (lv_at hl 3 rfl) ?_
                  refine lv_bipush (v := 59) hx hb dX7_carryOut_81 (by decide) ?_
                  refine kX7_234 X hJ (mX7_takes l E B ((sX7_does (upR g25 (sX7_readsOrder g25.2.2.2).2)).2) 59 (((sX7_does (upR g25 (sX7_readsOrder g25.2.2.2).2)).2).2.2.2) (Pq0 ((Gi_does (Gi_upR (hgi) (Rr_readsOrder ((hgi).2))) (by assumption)).gm).2.1)) rfl (by omega) (at_M rfl) hl.1 ⟨Nat.le_of_ble_eq_true rfl, Nat.le_of_ble_eq_true rfl⟩ ⟨Nat.le_refl _, Nat.le_refl _⟩ (rest := []) rfl (Nat.le_of_ble_eq_true rfl) dX7_carryOut_83 (fun H locs hJ => ?_)
                  refine lv_if_eq (tgt := 93) hx hb dX7_carryOut_86 (by decide) (fun c_86 => ?_) (fun c_86 => ?_)
                  · skip
                    refine lv_iconst (v := 0) hx hb dX7_carryOut_93 (by decide) ?_
                    refine lv_istore_n (lv' := [(2, .int 0), (1, .int (nI (p + 1))), (4, .int ((sX7_does (upR g25 (sX7_readsOrder g25.2.2.2).2)).1)), (3, .int 1), (0, .ref (B + 459))]) hx hb dX7_carryOut_94 rfl hl (by decide) rfl (fun ls hl => ?_)
                    refine lv_goto (tgt := 25) hx hb dX7_carryOut_95 (by decide) ?_
                    have hs : sX7_carryOut g = bX7_carryOut_25  n (upR ((sX7_does (upR g25 (sX7_readsOrder g25.2.2.2).2)).2) (sX7_takes (((sX7_does (upR g25 (sX7_readsOrder g25.2.2.2).2)).2).2.2.2) 59).2) (p + 1) 0 := hs.trans (by rw [bX7_carryOut_25, if_neg c_26, if_neg c_33, if_pos c_40, if_pos c_86])
                    exact ih (upR ((sX7_does (upR g25 (sX7_readsOrder g25.2.2.2).2)).2) (sX7_takes (((sX7_does (upR g25 (sX7_readsOrder g25.2.2.2).2)).2).2.2.2) 59).2) (p + 1) 0 (co_mu2 (by decide) hmo c_26 hgi c_33 hm) (Gi_upR (Gi_does (Gi_upR (hgi) (Rr_readsOrder ((hgi).2))) (by assumption)) (Rr_takes ((Gi_does (Gi_upR (hgi) (Rr_readsOrder ((hgi).2))) (by assumption)).2))) (by first | exact Or.inl rfl | exact Or.inr rfl) _ _ _ hJ (lv_sub hl [4, 1, 0] rfl) hs
                  · skip
                    refine lv_iconst (v := 1) hx hb dX7_carryOut_89 (by decide) ?_
                    refine lv_goto (tgt := 94) hx hb dX7_carryOut_90 (by decide) ?_
                    refine lv_istore_n (lv' := [(2, .int 1), (1, .int (nI (p + 1))), (4, .int ((sX7_does (upR g25 (sX7_readsOrder g25.2.2.2).2)).1)), (3, .int 1), (0, .ref (B + 459))]) hx hb dX7_carryOut_94 rfl hl (by decide) rfl (fun ls hl => ?_)
                    refine lv_goto (tgt := 25) hx hb dX7_carryOut_95 (by decide) ?_
                    have hs : sX7_carryOut g = bX7_carryOut_25  n (upR ((sX7_does (upR g25 (sX7_readsOrder g25.2.2.2).2)).2) (sX7_takes (((sX7_does (upR g25 (sX7_readsOrder g25.2.2.2).2)).2).2.2.2) 59).2) (p + 1) 1 := hs.trans (by rw [bX7_carryOut_25, if_neg c_26, if_neg c_33, if_pos c_40, if_neg c_86])
                    exact ih (upR ((sX7_does (upR g25 (sX7_readsOrder g25.2.2.2).2)).2) (sX7_takes (((sX7_does (upR g25 (sX7_readsOrder g25.2.2.2).2)).2).2.2.2) 59).2) (p + 1) 1 (co_mu2 (by decide) hmo c_26 hgi c_33 hm) (Gi_upR (Gi_does (Gi_upR (hgi) (Rr_readsOrder ((hgi).2))) (by assumption)) (Rr_takes ((Gi_does (Gi_upR (hgi) (Rr_readsOrder ((hgi).2))) (by assumption)).2))) (by first | exact Or.inl rfl | exact Or.inr rfl) _ _ _ hJ (lv_sub hl [4, 1, 0] rfl) hs
  refine lv_aload_n hx hb dX7_carryOut_0 rfl (lv_at hl 0 rfl) ?_
  refine kX7_243 X hJ (mX7_fault l E B g g.2.2.2 (Pq0 ((hgi).gm).2.1)) rfl (by omega) (at_M rfl) hl.1 ⟨Nat.le_of_ble_eq_true rfl, Nat.le_of_ble_eq_true rfl⟩ ⟨Nat.le_refl _, Nat.le_refl _⟩ (rest := []) rfl (Nat.le_of_ble_eq_true rfl) dX7_carryOut_1 (fun H locs hJ => ?_)
  refine lv_bipush (v := (-6)) hx hb dX7_carryOut_4 (by decide) ?_
  refine lv_icmp_eq (tgt := 12) hx hb dX7_carryOut_6 (by decide) (fun c_6 => ?_) (fun c_6 => ?_)
  · skip
    refine lv_aload_n hx hb dX7_carryOut_12 rfl (lv_at hl 0 rfl) ?_
    refine kX7_117 X hJ (mX7_changes l E B (upR g (sX7_fault g.2.2.2).2) ((Gi_upR (hgi) (Rr_fault ((hgi).2))).gm)) rfl (by omega) (at_M rfl) hl.1 ⟨Nat.le_of_ble_eq_true rfl, Nat.le_of_ble_eq_true rfl⟩ ⟨Nat.le_refl _, Nat.le_refl _⟩ (rest := []) rfl (Nat.le_of_ble_eq_true rfl) dX7_carryOut_13 (fun H locs hJ => ?_)
    refine lv_aload_n hx hb dX7_carryOut_16 rfl (lv_at hl 0 rfl) ?_
    refine lv_iconst (v := 0) hx hb dX7_carryOut_17 (by decide) ?_
    have hJ : JG E B s_ (upR (sX7_changes (upR g (sX7_fault g.2.2.2).2)) (sX7_changes (upR g (sX7_fault g.2.2.2).2)).2.2.2) _ _ := hJ
    refine pX7_199 X hJ  dX7_carryOut_18 (fun H locs hJ => ?_)
    refine lv_iconst (v := 0) hx hb dX7_carryOut_21 (by decide) ?_
    refine lv_istore_n (lv' := [(1, .int 0), (0, .ref (B + 459))]) hx hb dX7_carryOut_22 rfl hl (by decide) rfl (fun ls hl => ?_)
    refine lv_iconst (v := 1) hx hb dX7_carryOut_23 (by decide) ?_
    refine lv_istore_n (lv' := [(2, .int 1), (1, .int 0), (0, .ref (B + 459))]) hx hb dX7_carryOut_24 rfl hl (by decide) rfl (fun ls hl => ?_)
    have hs : sX7_carryOut g = bX7_carryOut_25  82 (upR (sX7_changes (upR g (sX7_fault g.2.2.2).2)) (upd ((sX7_changes (upR g (sX7_fault g.2.2.2).2)).2.2.2) (2) 0)) 0 1 := by unfold sX7_carryOut; rw [if_pos c_6]
    exact bk_25 82 (upR (sX7_changes (upR g (sX7_fault g.2.2.2).2)) (upd ((sX7_changes (upR g (sX7_fault g.2.2.2).2)).2.2.2) (2) 0)) 0 1 (by have e := nn_one; omega) (Gi_upR (Gi_changes (Gi_upR (hgi) (Rr_fault ((hgi).2)))) (Rr_2 ((Gi_changes (Gi_upR (hgi) (Rr_fault ((hgi).2)))).2))) (Or.inr rfl) _ _ _ hJ (lv_sub hl [2, 1, 0] rfl) hs
  · skip
    refine lv_bipush (v := (-3)) hx hb dX7_carryOut_9 (by decide) ?_
    have hs : sX7_carryOut g = ((-3), upR g (sX7_fault g.2.2.2).2) := by unfold sX7_carryOut; rw [if_neg c_6]
    exact fin (by rw [hs]; dsimp only; exact hJ) (by rw [hs]) dX7_carryOut_11

