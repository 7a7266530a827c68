/-! why again, where only the carts that stand are told where they wait; what the invariants give of the reads -/
def Atn (w : Row) : Prop := ∀ c, c < 8 → c < nn (w 6) → w (104 + 8 * c + 2) = -6 ∨ sm (w (104 + 8 * c + 2)) 11
theorem Atn_of {w : Row} (h : Inv w) : Atn w := by
  intro c _ hc
  rcases h.2.1.2.2 c hc with q | q
  · exact Or.inl q
  · obtain ⟨-, i, hi, e⟩ := h.2.1.2.1 c q
    have := h.1.1.2.1.le
    rw [e]
    exact Or.inr (sm_nI (by omega) (by omega))
theorem Rg_of {w : Row} (h : Inv w) : Rg w := by
  intro c i hc hi
  by_cases n : i < nn (w 5)
  · obtain ⟨a, b, d⟩ := h.2.2.2.2.1 c i hc hi n
    have := (h.1.2.2.1 i hi).2.2.2
    exact ⟨a, by omega⟩
  · obtain ⟨a, b⟩ := h.2.2.1.2.2.2 c i hc hi (by omega)
    rw [a, b, show (0 : Int32).toInt = 0 from by decide]
    exact ⟨by omega, by omega⟩
set_option maxHeartbeats 4000000 in
set_option maxRecDepth 100000 in
theorem mX7_whyn (l : Launch) (E : EE) (B : Nat) (g : GS) (x : Int32) (w : Row)  (hw : g.2.2.1 0 = w) (hrn : Rn w) (hat : Atn w) : CG l yX7_why cX7_why 3 (some .int) 4 96 E B [.ref (B + 459), .int x] g (some (.int (sX7_why w x))) g := by
  refine mkI (own := RX7) (ty := .int) rfl (by decide) rfl (rfl) (Nat.le_of_ble_eq_true rfl) (fun P_ e_ s_ m_ a_ below meth cd Q X fin ls hl hJ => ?_)
  have hx := X.1
  have hb := X.2.1
  have hl : lv_has ls 3 [(0, .ref (B + 459)), (1, .int x)] := hl
  refine lv_aload_n hx hb dX7_why_0 rfl (lv_at hl 0 rfl) ?_
  refine lv_iload_n hx hb dX7_why_1 rfl (lv_at hl 1 rfl) ?_
  refine kX7_95 X hJ (mX7_isCart l E B _ x w hw) rfl (by omega) (at_M rfl) hl.1 ⟨Nat.le_of_ble_eq_true rfl, Nat.le_of_ble_eq_true rfl⟩ ⟨Nat.le_refl _, Nat.le_refl _⟩ (rest := []) rfl (Nat.le_of_ble_eq_true rfl) dX7_why_2 (fun H locs hJ => ?_)
  refine lv_if_ne (tgt := 10) hx hb dX7_why_5 (by decide) (fun c_5 => ?_) (fun c_5 => ?_)
  · skip
    have hC_x := (isCart_of hrn.1 c_5).2.2
    have hC_n := (isCart_of hrn.1 c_5).2.1
    have hl : lv_has ls 3 [(0, .ref (B + 459)), (1, .int (nI (nn x)))] := by rw [← show x = nI (nn x) from (isCart_of hrn.1 c_5).1]; exact hl
    refine lv_aload_n hx hb dX7_why_10 rfl (lv_at hl 0 rfl) ?_
    refine gX7_7 X hJ (w := g.2.2.2) rfl dX7_why_11 ?_
    refine lv_iconst (v := 0) hx hb dX7_why_14 (by decide) ?_
    refine lv_iload_n hx hb dX7_why_15 rfl (lv_at hl 1 rfl) ?_
    refine kX7_40 X hJ (qX7_cartAt l E B _ 0 (nn x)) rfl hl.1 ⟨Nat.le_of_ble_eq_true rfl, Nat.le_of_ble_eq_true rfl⟩ ⟨Nat.le_refl _, Nat.le_refl _⟩ (rest := [.ref (B + 460)]) rfl (Nat.le_of_ble_eq_true rfl) dX7_why_16 (fun H locs hJ => ?_)
    refine lv_iconst (v := 2) hx hb dX7_why_19 (by decide) ?_
    refine xiadd (z := nI (360 * 0 + (104 + 8 * (nn x) + 2))) hx hb dX7_why_20 (nI_a3 0 (104 + 8 * (nn x)) 2) ?_
    refine ld_s X hJ (t := 0) (w := w) (by omega) hw (j := 104 + 8 * (nn x) + 2) (rfl) (by omega) dX7_why_21 ?_
    refine lv_istore_n (lv' := [(2, .int (w (104 + 8 * (nn x) + 2))), (0, .ref (B + 459)), (1, .int (nI (nn x)))]) hx hb dX7_why_22 rfl hl (by decide) rfl (fun ls hl => ?_)
    refine lv_iload_n hx hb dX7_why_23 rfl (lv_at hl 0 rfl) ?_
    refine lv_bipush (v := (-6)) hx hb dX7_why_24 (by decide) ?_
    refine lv_icmp_ne (tgt := 31) hx hb dX7_why_26 (by decide) (fun c_26 => ?_) (fun c_26 => ?_)
    · skip
      have hA := ((hat _ hC_x hC_n).resolve_left c_26).le
      have hl : lv_has ls 3 [(2, .int (nI (nn (w (104 + 8 * (nn x) + 2))))), (0, .ref (B + 459)), (1, .int (nI (nn x)))] := by rw [← show w (104 + 8 * (nn x) + 2) = nI (nn (w (104 + 8 * (nn x) + 2))) from ((hat _ hC_x hC_n).resolve_left c_26).eq]; exact hl
      refine lv_aload_n hx hb dX7_why_31 rfl (lv_at hl 1 rfl) ?_
      refine lv_iconst (v := 0) hx hb dX7_why_32 (by decide) ?_
      refine lv_iload_n hx hb dX7_why_33 rfl (lv_at hl 0 rfl) ?_
      refine kX7_60 X hJ (mX7_comer l E B _ 0 (nn (w (104 + 8 * (nn x) + 2))) w (by omega) (by omega) hw (hrn)) rfl (by omega) (at_M rfl) hl.1 ⟨Nat.le_of_ble_eq_true rfl, Nat.le_of_ble_eq_true rfl⟩ ⟨Nat.le_refl _, Nat.le_refl _⟩ (rest := []) rfl (Nat.le_of_ble_eq_true rfl) dX7_why_34 (fun H locs hJ => ?_)
      refine lv_iload_n hx hb dX7_why_37 rfl (lv_at hl 2 rfl) ?_
      refine lv_icmp_ne (tgt := 43) hx hb dX7_why_38 (by decide) (fun c_38 => ?_) (fun c_38 => ?_)
      · skip
        refine lv_aload_n hx hb dX7_why_43 rfl (lv_at hl 1 rfl) ?_
        refine lv_iconst (v := 0) hx hb dX7_why_44 (by decide) ?_
        refine lv_iload_n hx hb dX7_why_45 rfl (lv_at hl 0 rfl) ?_
        refine kX7_47 X hJ (mX7_many l E B _ 0 (nn (w (104 + 8 * (nn x) + 2))) w (by omega) (by omega) hw (hrn)) rfl (by omega) (at_M rfl) hl.1 ⟨Nat.le_of_ble_eq_true rfl, Nat.le_of_ble_eq_true rfl⟩ ⟨Nat.le_refl _, Nat.le_refl _⟩ (rest := []) rfl (Nat.le_of_ble_eq_true rfl) dX7_why_46 (fun H locs hJ => ?_)
        refine lv_iconst (v := 1) hx hb dX7_why_49 (by decide) ?_
        refine lv_icmp_ne (tgt := 55) hx hb dX7_why_50 (by decide) (fun c_50 => ?_) (fun c_50 => ?_)
        · skip
          refine lv_aload_n hx hb dX7_why_55 rfl (lv_at hl 1 rfl) ?_
          refine lv_iconst (v := 0) hx hb dX7_why_56 (by decide) ?_
          refine lv_iload_n hx hb dX7_why_57 rfl (lv_at hl 0 rfl) ?_
          refine lv_iconst (v := 0) hx hb dX7_why_58 (by decide) ?_
          refine kX7_50 X hJ (mX7_waiter l E B _ 0 (nn (w (104 + 8 * (nn x) + 2))) 0 w (by omega) (by omega) hw (hrn)) rfl (by omega) (at_M rfl) hl.1 ⟨Nat.le_of_ble_eq_true rfl, Nat.le_of_ble_eq_true rfl⟩ ⟨Nat.le_refl _, Nat.le_refl _⟩ (rest := []) rfl (Nat.le_of_ble_eq_true rfl) dX7_why_59 (fun H locs hJ => ?_)
          refine lv_iload_n hx hb dX7_why_62 rfl (lv_at hl 2 rfl) ?_
          refine lv_icmp_eq (tgt := 79) hx hb dX7_why_63 (by decide) (fun c_63 => ?_) (fun c_63 => ?_)
          · skip
            refine lv_aload_n hx hb dX7_why_79 rfl (lv_at hl 1 rfl) ?_
            refine lv_iconst (v := 0) hx hb dX7_why_80 (by decide) ?_
            refine lv_iload_n hx hb dX7_why_81 rfl (lv_at hl 0 rfl) ?_
            refine kX7_56 X hJ (mX7_areAsNear l E B _ 0 (nn (w (104 + 8 * (nn x) + 2))) w (by omega) (by omega) hw (hrn)) rfl (by omega) (at_M rfl) hl.1 ⟨Nat.le_of_ble_eq_true rfl, Nat.le_of_ble_eq_true rfl⟩ ⟨Nat.le_refl _, Nat.le_refl _⟩ (rest := []) rfl (Nat.le_of_ble_eq_true rfl) dX7_why_82 (fun H locs hJ => ?_)
            refine lv_if_ne (tgt := 92) hx hb dX7_why_85 (by decide) (fun c_85 => ?_) (fun c_85 => ?_)
            · skip
              refine lv_aload_n hx hb dX7_why_92 rfl (lv_at hl 1 rfl) ?_
              refine lv_iconst (v := 0) hx hb dX7_why_93 (by decide) ?_
              refine lv_iload_n hx hb dX7_why_94 rfl (lv_at hl 0 rfl) ?_
              refine kX7_60 X hJ (mX7_comer l E B _ 0 (nn (w (104 + 8 * (nn x) + 2))) w (by omega) (by omega) hw (hrn)) rfl (by omega) (at_M rfl) hl.1 ⟨Nat.le_of_ble_eq_true rfl, Nat.le_of_ble_eq_true rfl⟩ ⟨Nat.le_refl _, Nat.le_refl _⟩ (rest := []) rfl (Nat.le_of_ble_eq_true rfl) dX7_why_95 (fun H locs hJ => ?_)
              refine lv_bipush (v := (-6)) hx hb dX7_why_98 (by decide) ?_
              refine lv_icmp_ne (tgt := 108) hx hb dX7_why_100 (by decide) (fun c_100 => ?_) (fun c_100 => ?_)
              · skip
                refine lv_iconst (v := 5) hx hb dX7_why_108 (by decide) ?_
                have hs : sX7_why w x = 5 := by unfold sX7_why; rw [if_neg c_5, if_neg c_26, if_neg c_38, if_neg c_50, if_pos c_63, if_neg c_85, if_neg c_100]
                exact fin hJ (by rw [hs]) dX7_why_109
              · skip
                refine lv_bipush (v := 6) hx hb dX7_why_103 (by decide) ?_
                refine lv_goto (tgt := 109) hx hb dX7_why_105 (by decide) ?_
                have hs : sX7_why w x = 6 := by unfold sX7_why; rw [if_neg c_5, if_neg c_26, if_neg c_38, if_neg c_50, if_pos c_63, if_neg c_85, if_pos c_100]
                exact fin hJ (by rw [hs]) dX7_why_109
            · skip
              refine lv_iconst (v := 4) hx hb dX7_why_88 (by decide) ?_
              refine lv_goto (tgt := 109) hx hb dX7_why_89 (by decide) ?_
              have hs : sX7_why w x = 4 := by unfold sX7_why; rw [if_neg c_5, if_neg c_26, if_neg c_38, if_neg c_50, if_pos c_63, if_pos c_85]
              exact fin hJ (by rw [hs]) dX7_why_109
          · skip
            refine lv_aload_n hx hb dX7_why_66 rfl (lv_at hl 1 rfl) ?_
            refine lv_iconst (v := 0) hx hb dX7_why_67 (by decide) ?_
            refine lv_iload_n hx hb dX7_why_68 rfl (lv_at hl 0 rfl) ?_
            refine lv_iconst (v := 1) hx hb dX7_why_69 (by decide) ?_
            refine kX7_50 X hJ (mX7_waiter l E B _ 0 (nn (w (104 + 8 * (nn x) + 2))) 1 w (by omega) (by omega) hw (hrn)) rfl (by omega) (at_M rfl) hl.1 ⟨Nat.le_of_ble_eq_true rfl, Nat.le_of_ble_eq_true rfl⟩ ⟨Nat.le_refl _, Nat.le_refl _⟩ (rest := []) rfl (Nat.le_of_ble_eq_true rfl) dX7_why_70 (fun H locs hJ => ?_)
            refine lv_iload_n hx hb dX7_why_73 rfl (lv_at hl 2 rfl) ?_
            refine lv_icmp_eq (tgt := 79) hx hb dX7_why_74 (by decide) (fun c_74 => ?_) (fun c_74 => ?_)
            · skip
              refine lv_aload_n hx hb dX7_why_79 rfl (lv_at hl 1 rfl) ?_
              refine lv_iconst (v := 0) hx hb dX7_why_80 (by decide) ?_
              refine lv_iload_n hx hb dX7_why_81 rfl (lv_at hl 0 rfl) ?_
              refine kX7_56 X hJ (mX7_areAsNear l E B _ 0 (nn (w (104 + 8 * (nn x) + 2))) w (by omega) (by omega) hw (hrn)) rfl (by omega) (at_M rfl) hl.1 ⟨Nat.le_of_ble_eq_true rfl, Nat.le_of_ble_eq_true rfl⟩ ⟨Nat.le_refl _, Nat.le_refl _⟩ (rest := []) rfl (Nat.le_of_ble_eq_true rfl) dX7_why_82 (fun H locs hJ => ?_)
              refine lv_if_ne (tgt := 92) hx hb dX7_why_85 (by decide) (fun c_85 => ?_) (fun c_85 => ?_)
              · skip
                refine lv_aload_n hx hb dX7_why_92 rfl (lv_at hl 1 rfl) ?_
                refine lv_iconst (v := 0) hx hb dX7_why_93 (by decide) ?_
                refine lv_iload_n hx hb dX7_why_94 rfl (lv_at hl 0 rfl) ?_
                refine kX7_60 X hJ (mX7_comer l E B _ 0 (nn (w (104 + 8 * (nn x) + 2))) w (by omega) (by omega) hw (hrn)) rfl (by omega) (at_M rfl) hl.1 ⟨Nat.le_of_ble_eq_true rfl, Nat.le_of_ble_eq_true rfl⟩ ⟨Nat.le_refl _, Nat.le_refl _⟩ (rest := []) rfl (Nat.le_of_ble_eq_true rfl) dX7_why_95 (fun H locs hJ => ?_)
                refine lv_bipush (v := (-6)) hx hb dX7_why_98 (by decide) ?_
                refine lv_icmp_ne (tgt := 108) hx hb dX7_why_100 (by decide) (fun c_100 => ?_) (fun c_100 => ?_)
                · skip
                  refine lv_iconst (v := 5) hx hb dX7_why_108 (by decide) ?_
                  have hs : sX7_why w x = 5 := by unfold sX7_why; rw [if_neg c_5, if_neg c_26, if_neg c_38, if_neg c_50, if_neg c_63, if_pos c_74, if_neg c_85, if_neg c_100]
                  exact fin hJ (by rw [hs]) dX7_why_109
                · skip
                  refine lv_bipush (v := 6) hx hb dX7_why_103 (by decide) ?_
                  refine lv_goto (tgt := 109) hx hb dX7_why_105 (by decide) ?_
                  have hs : sX7_why w x = 6 := by unfold sX7_why; rw [if_neg c_5, if_neg c_26, if_neg c_38, if_neg c_50, if_neg c_63, if_pos c_74, if_neg c_85, if_pos c_100]
                  exact fin hJ (by rw [hs]) dX7_why_109
              · skip
                refine lv_iconst (v := 4) hx hb dX7_why_88 (by decide) ?_
                refine lv_goto (tgt := 109) hx hb dX7_why_89 (by decide) ?_
                have hs : sX7_why w x = 4 := by unfold sX7_why; rw [if_neg c_5, if_neg c_26, if_neg c_38, if_neg c_50, if_neg c_63, if_pos c_74, if_pos c_85]
                exact fin hJ (by rw [hs]) dX7_why_109
            · skip
              refine lv_iconst (v := 3) hx hb dX7_why_77 (by decide) ?_
              have hs : sX7_why w x = 3 := by unfold sX7_why; rw [if_neg c_5, if_neg c_26, if_neg c_38, if_neg c_50, if_neg c_63, if_neg c_74]
              exact fin hJ (by rw [hs]) dX7_why_78
        · skip
          refine lv_iconst (v := 2) hx hb dX7_why_53 (by decide) ?_
          have hs : sX7_why w x = 2 := by unfold sX7_why; rw [if_neg c_5, if_neg c_26, if_neg c_38, if_pos c_50]
          exact fin hJ (by rw [hs]) dX7_why_54
      · skip
        refine lv_iconst (v := 0) hx hb dX7_why_41 (by decide) ?_
        have hs : sX7_why w x = 0 := by unfold sX7_why; rw [if_neg c_5, if_neg c_26, if_pos c_38]
        exact fin hJ (by rw [hs]) dX7_why_42
    · skip
      refine lv_iconst (v := 1) hx hb dX7_why_29 (by decide) ?_
      have hs : sX7_why w x = 1 := by unfold sX7_why; rw [if_neg c_5, if_pos c_26]
      exact fin hJ (by rw [hs]) dX7_why_30
  · skip
    refine lv_iconst (v := (-1)) hx hb dX7_why_8 (by decide) ?_
    have hs : sX7_why w x = (-1) := by unfold sX7_why; rw [if_pos c_5]
    exact fin hJ (by rw [hs]) dX7_why_9
