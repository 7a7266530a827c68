/-! undo and saved states, side by side -/
section FU
variable {g : GS} {x y z : Int32}
theorem tb_f (h : RG g) : sX2_takeBack g = upW (upC g (upd (upd g.2.1 0 (nI ((nn (g.2.1 0) + 6) % 7))) 1 (g.2.1 1 - 1))) 0 (g.1 (2 + (nn (g.2.1 0) + 6) % 7)) := by
  have e := sp7b h.1.2.2
  unfold sX2_takeBack
  show upW (upC g (upd (upd g.2.1 0 ((g.2.1 0 + 7) - 1 - ((g.2.1 0 + 7) - 1) / 7 * 7)) 1 ((upd g.2.1 0 ((g.2.1 0 + 7) - 1 - ((g.2.1 0 + 7) - 1) / 7 * 7)) 1 - 1))) 0 (g.1 (2 + (nn (g.2.1 0) + 6) % 7)) = _
  rw [e, updn (show ¬ 1 = 0 by omega)]
theorem undo_ok (h : RG g) : OKs g (sX6_undo g) (sX7_undo (sX6_undo g).2) := by
  obtain ⟨hN, hI, hR, hH, hS, hP⟩ := h
  have hst := hI.2.2
  have bst := hst.le
  have b0 := hN.2.2.le
  unfold sX6_undo
  rw [hH.1]
  by_cases c : g.2.2.2 0 = 0
  · rw [if_pos c]
    unfold sX7_undo
    rw [if_pos (show (((-5 : Int32), g).2).2.2.2 0 = 0 from c)]
    exact ⟨rfl, rfl, hN, hI, hR, hH, hS, hP⟩
  · rw [if_neg c, tb_f ⟨hN, hI, hR, hH, hS, hP⟩]
    unfold sX7_undo
    rw [if_neg (show ¬ (upW (upC g (upd (upd g.2.1 0 (nI ((nn (g.2.1 0) + 6) % 7))) 1 (g.2.1 1 - 1))) 0 (g.1 (2 + (nn (g.2.1 0) + 6) % 7))).2.2.2 0 = 0 from c)]
    have n0 : ¬ nn (g.2.2.2 0) = 0 := fun e => c (hst.eq.trans (by rw [e]; rfl))
    have em : g.2.2.2 0 - 1 = nI (nn (g.2.2.2 0) - 1) := by
      have := nI_pr (n := nn (g.2.2.2 0)) (by omega)
      rw [← hst.eq] at this; exact this
    have h0 := hH.2 0 (by omega)
    rw [Nat.sub_zero, Nat.sub_zero] at h0
    refine ⟨rfl, ?_, ?_, ?_, ?_, ⟨?_, fun k hk => ?_⟩, fun s hs => ?_, ?_⟩
    · show g.2.1 1 - 1 = g.2.2.2 0 - 1
      rw [hH.1]
    · refine ⟨fun k hk => ?_, ?_, ?_⟩
      · show Cn (if k = 0 then g.1 (2 + (nn (g.2.1 0) + 6) % 7) else g.1 k)
        by_cases e : k = 0
        · rw [if_pos e]; exact hN.1 _ (by omega)
        · rw [if_neg e]; exact hN.1 k hk
      · exact Pd_upd (by omega) (Pd_upd (by omega) hN.2.1)
      · show sm (upd (upd g.2.1 0 (nI ((nn (g.2.1 0) + 6) % 7))) 1 (g.2.1 1 - 1) 0) 6
        rw [updn (by omega), upde]; exact sm_nI (by omega) (by omega)
    · refine ⟨fun t ht => ?_, ⟨hI.2.1.1, hI.2.1.2⟩, ?_⟩
      · show Inv (if t = 0 then g.2.2.1 (nn (g.2.2.2 0)) else g.2.2.1 t)
        by_cases e : t = 0
        · rw [if_pos e]; exact hI.1 _ (by omega)
        · rw [if_neg e]; exact hI.1 t ht
      · show sm (g.2.2.2 0 - 1) 6
        rw [em]; exact sm_nI (by omega) (by omega)
    · exact h0
    · show g.2.1 1 - 1 = g.2.2.2 0 - 1
      rw [hH.1]
    · have hk' : k < nn (g.2.2.2 0 - 1) := hk
      show Rel ((fun k' => if k' = 0 then g.1 (2 + (nn (g.2.1 0) + 6) % 7) else g.1 k') (2 + (nn (nI ((nn (g.2.1 0) + 6) % 7)) + 6 - k) % 7)) ((fun t' => if t' = 0 then g.2.2.1 (nn (g.2.2.2 0)) else g.2.2.1 t') (nn (g.2.2.2 0 - 1) - k))
      rw [em, nn_nI (by omega)] at hk' ⊢
      rw [nn_nI (by omega)]
      have := hH.2 (k + 1) (by omega)
      show Rel (if 2 + ((nn (g.2.1 0) + 6) % 7 + 6 - k) % 7 = 0 then g.1 (2 + (nn (g.2.1 0) + 6) % 7) else g.1 (2 + ((nn (g.2.1 0) + 6) % 7 + 6 - k) % 7)) (if nn (g.2.2.2 0) - 1 - k = 0 then g.2.2.1 (nn (g.2.2.2 0)) else g.2.2.1 (nn (g.2.2.2 0) - 1 - k))
      rw [if_neg (by omega), if_neg (by omega), show ((nn (g.2.1 0) + 6) % 7 + 6 - k) % 7 = (nn (g.2.1 0) + 6 - (k + 1)) % 7 by omega, show nn (g.2.2.2 0) - 1 - k = nn (g.2.2.2 0) - (k + 1) by omega]
      exact this
    · have := hS s hs
      show upd (upd g.2.1 0 (nI ((nn (g.2.1 0) + 6) % 7))) 1 (g.2.1 1 - 1) (10 + s) = upd g.2.2.2 0 (g.2.2.2 0 - 1) (10 + s) ∧ (¬ upd g.2.2.2 0 (g.2.2.2 0 - 1) (10 + s) = 0 → Rel (if 9 + s = 0 then g.1 (2 + (nn (g.2.1 0) + 6) % 7) else g.1 (9 + s)) (if 7 + s = 0 then g.2.2.1 (nn (g.2.2.2 0)) else g.2.2.1 (7 + s)))
      rw [updn (by omega), updn (by omega), updn (by omega), if_neg (by omega), if_neg (by omega)]
      exact this
    · show PG (upd (upd g.2.1 0 (nI ((nn (g.2.1 0) + 6) % 7))) 1 (g.2.1 1 - 1)) (upd g.2.2.2 0 (g.2.2.2 0 - 1))
      exact PG_same (c := g.2.1) (r := g.2.2.2) ((updn (by omega)).trans (updn (by omega))) (updn (by omega)) (fun k hk => (updn (by omega)).trans (updn (by omega))) (fun k hk => updn (by omega)) hI.2.1.1 hP
theorem slot_iff : sX6_isBelow x 2 = 0 ↔ sX7_isSlot x = 0 := by
  unfold sX7_isSlot
  by_cases h0 : x = 0
  · rw [if_pos h0, h0]; decide
  rw [if_neg h0]
  by_cases h1 : x = 1
  · rw [if_pos h1, h1]; decide
  rw [if_neg h1]
  refine ⟨fun _ => rfl, fun _ => Decidable.byContradiction fun q => ?_⟩
  have := isB_iff.mp q
  rw [show (2 : Int32).toInt = 2 from by decide] at this
  have e := nI_nn this.1
  have en := nn_toInt this.1
  rcases (show nn x = 0 ∨ nn x = 1 by omega) with k | k
  · exact h0 (by rw [e, k]; rfl)
  · exact h1 (by rw [e, k]; rfl)
theorem save_ok (h : RG g) : OKs g (sX6_save g x) (sX7_save (sX6_save g x).2 x) := by
  obtain ⟨hN, hI, hR, hH, hS, hP⟩ := h
  have bst := hI.2.2.le
  have b0 := hN.2.2.le
  unfold sX6_save sX7_save
  by_cases c : sX7_isSlot x = 0
  · rw [if_pos (slot_iff.mpr c), if_pos c]
    exact ⟨rfl, rfl, hN, hI, hR, hH, hS, hP⟩
  · rw [if_neg (fun q => c (slot_iff.mp q)), if_neg c]
    have hx := (isSlot_of c).2
    generalize nn x = s at hx ⊢
    refine ⟨rfl, ?_, ?_, ?_, ?_, ⟨?_, fun k hk => ?_⟩, fun s' hs => ?_, ?_⟩
    · show (if 0 = 9 + s then g.1 0 else g.1 0) 6 = (if 0 = 7 + s then g.2.2.1 0 else g.2.2.1 0) 6
      rw [if_neg (by omega), if_neg (by omega)]; exact hR.j (by omega)
    · refine ⟨fun k hk => ?_, ?_, ?_⟩
      · show Cn (if k = 9 + s then g.1 0 else g.1 k)
        by_cases e : k = 9 + s
        · rw [if_pos e]; exact hN.1 0 (by omega)
        · rw [if_neg e]; exact hN.1 k hk
      · exact Pd_upd (by omega) hN.2.1
      · exact Sp_upd (by omega) hN.2.2
    · refine ⟨fun t ht => ?_, ⟨?_, ?_⟩, ?_⟩
      · show Inv (if t = 7 + s then g.2.2.1 0 else g.2.2.1 t)
        by_cases e : t = 7 + s
        · rw [if_pos e]; exact hI.1 0 (by omega)
        · rw [if_neg e]; exact hI.1 t ht
      · show sm (upd g.2.2.2 (10 + s) 1 1) 80
        rw [updn (by omega)]; exact hI.2.1.1
      · show sm (upd g.2.2.2 (10 + s) 1 2) 80
        rw [updn (by omega)]; exact hI.2.1.2
      · show sm (upd g.2.2.2 (10 + s) 1 0) 6
        rw [updn (by omega)]; exact hI.2.2
    · show Rel (if 0 = 9 + s then g.1 0 else g.1 0) (if 0 = 7 + s then g.2.2.1 0 else g.2.2.1 0)
      rw [if_neg (by omega), if_neg (by omega)]; exact hR
    · show upd g.2.1 (10 + s) 1 1 = upd g.2.2.2 (10 + s) 1 0
      rw [updn (by omega), updn (by omega)]; exact hH.1
    · have hk' : k < nn (upd g.2.2.2 (10 + s) 1 0) := hk
      show Rel (if 2 + (nn (upd g.2.1 (10 + s) 1 0) + 6 - k) % 7 = 9 + s then g.1 0 else g.1 (2 + (nn (upd g.2.1 (10 + s) 1 0) + 6 - k) % 7)) (if nn (upd g.2.2.2 (10 + s) 1 0) - k = 7 + s then g.2.2.1 0 else g.2.2.1 (nn (upd g.2.2.2 (10 + s) 1 0) - k))
      rw [updn (show ¬ 0 = 10 + s by omega)] at hk'
      rw [updn (show ¬ 0 = 10 + s by omega), updn (show ¬ 0 = 10 + s by omega), if_neg (by omega), if_neg (by omega)]
      exact hH.2 k hk'
    · have := hS s' hs
      show upd g.2.1 (10 + s) 1 (10 + s') = upd g.2.2.2 (10 + s) 1 (10 + s') ∧ (¬ upd g.2.2.2 (10 + s) 1 (10 + s') = 0 → Rel (if 9 + s' = 9 + s then g.1 0 else g.1 (9 + s')) (if 7 + s' = 7 + s then g.2.2.1 0 else g.2.2.1 (7 + s')))
      by_cases e : s' = s
      · subst e
        rw [upde, upde, if_pos rfl, if_pos rfl]
        exact ⟨rfl, fun _ => hR⟩
      · rw [updn (by omega), updn (by omega), if_neg (by omega), if_neg (by omega)]; exact this
    · exact PG_same (c := g.2.1) (r := g.2.2.2) (updn (by omega)) (updn (by omega)) (fun k hk => updn (by omega)) (fun k hk => updn (by omega)) hI.2.1.1 hP
theorem restore_ok (h : RG g) : OKs g (sX6_restore g x) (sX7_restore (sX6_restore g x).2 x) := by
  have hN := h.1
  have hI := h.2.1
  have bst := hI.2.2.le
  have b0 := hN.2.2.le
  by_cases c : sX7_isSlot x = 0
  · unfold sX6_restore sX7_restore
    rw [if_pos (slot_iff.mpr c), if_pos c]
    exact ⟨rfl, rfl, h⟩
  have hx := (isSlot_of c).2
  have hs := h.2.2.2.2.1 (nn x) hx
  by_cases c2 : g.2.2.2 (10 + nn x) = 0
  · unfold sX6_restore sX7_restore
    rw [if_neg (fun q => c (slot_iff.mp q)), if_neg c, if_pos (hs.1.trans c2)]
    show OKs g (-5, g) (if g.2.2.2 (10 + nn x) = 0 then (-5, g) else _)
    rw [if_pos c2]
    exact ⟨rfl, rfl, h⟩
  have hRel := hs.2 c2
  have hIn := hI.1 (7 + nn x) (by omega)
  have hw : (sX2_note g).1 (9 + nn x) = g.1 (9 + nn x) := note_f.1 _ (by omega)
  have A : sX6_restore g x = sX6_recorded (upW (sX2_note g) 0 (g.1 (9 + nn x))) (g.1 (9 + nn x) 6) := by
    unfold sX6_restore
    rw [if_neg (fun q => c (slot_iff.mp q)), if_neg (fun q => c2 (hs.1.symm.trans q)), hw]
    rfl
  rw [A]
  have ea : g.1 (9 + nn x) 6 = g.2.2.1 (7 + nn x) 6 := hRel.j (by omega)
  have K := chg_ok h (a := (g.1 (9 + nn x) 6, g.1 (9 + nn x))) (b := (g.2.2.1 (7 + nn x) 6, g.2.2.1 (7 + nn x))) (e := 0) (fun q => absurd rfl q) (fun _ => ⟨ea, by
    rw [ea, Int32.le_iff_toInt_le, show (0 : Int32).toInt = 0 from by decide]
    exact hIn.1.1.2.2.1, hRel, hIn⟩)
  rw [if_pos rfl] at K
  have K1 : (sX6_recorded (upW (sX2_note g) 0 (g.1 (9 + nn x))) (g.1 (9 + nn x) 6)).2.2.2 = g.2.2 := K.1
  have hT : ∀ C : Int32 × GS, C.2.2.2 = g.2.2 → sX7_restore C.2 x = (g.2.2.1 (7 + nn x) 6, upS (sX7_changes C.2) 0 (g.2.2.1 (7 + nn x))) := fun C hC => by
    unfold sX7_restore
    have t := OKs.t (R := C) hC
    rw [if_neg c, t.2, if_neg c2]
    have ch : (sX7_changes C.2).2.2.1 (7 + nn x) = g.2.2.1 (7 + nn x) := by
      have hm : Gm C.2 := by
        have : Gi C.2 := by unfold Gi; rw [t.1, t.2]; exact hI
        exact this.gm
      rw [← t.1]
      by_cases c6 : C.2.2.2.2 0 = 6
      · exact (chT6 c6).2.2 _ (by omega)
      · have a : nn (C.2.2.2.2 0) < 6 := by rw [t.2] at c6 ⊢; exact nn6 hI.2.2 c6
        exact (chTn hm c6).2 _ (by omega)
    rw [ch]
    show ((upS (sX7_changes C.2) 0 (g.2.2.1 (7 + nn x))).2.2.1 0 6, _) = _
    rw [upS_1]
  rw [hT _ K1]
  exact K
end FU
