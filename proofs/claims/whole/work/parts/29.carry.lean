def sX6_obey (g : GS) : Int32 × GS := if g.2.1 5 = 98 then (((sX5_addBridge (g.1 0) (g.2.1 6) (g.2.1 7) (g.2.1 8)).1, upW g 0 (sX5_addBridge (g.1 0) (g.2.1 6) (g.2.1 7) (g.2.1 8)).2)) else if g.2.1 5 = 99 then (((sX5_addCart (g.1 0) (g.2.1 6) (g.2.1 7)).1, upW g 0 (sX5_addCart (g.1 0) (g.2.1 6) (g.2.1 7)).2)) else if g.2.1 5 = 103 then (((sX5_comeToWait (g.1 0) (g.2.1 6) (g.2.1 7) (g.2.1 8)).1, upW g 0 (sX5_comeToWait (g.1 0) (g.2.1 6) (g.2.1 7) (g.2.1 8)).2)) else if g.2.1 5 = 104 then (((sX5_buyHint (g.1 0) (g.2.1 6) (g.2.1 7)).1, upW g 0 (sX5_buyHint (g.1 0) (g.2.1 6) (g.2.1 7)).2)) else if g.2.1 5 = 108 then (((sX5_stopWaiting (g.1 0) (g.2.1 6)).1, upW g 0 (sX5_stopWaiting (g.1 0) (g.2.1 6)).2)) else (((sX5_passHours (g.1 0) (g.2.1 6)).1, upW g 0 (sX5_passHours (g.1 0) (g.2.1 6)).2))
set_option maxHeartbeats 4000000 in
set_option maxRecDepth 100000 in
theorem mX6_obey (l : Launch) (E : EE) (B : Nat) (g : GS)  (hgn : Gn g) : CG l yX6_obey cX6_obey 1 (some .int) 6 138 E B [.ref (B + 0)] g (some (.int (sX6_obey g).1)) ((sX6_obey g).2) := by
  refine mkI (own := RX6) (ty := .int) rfl (by decide) rfl (rfl) (Nat.le_of_ble_eq_true rfl) (fun P_ e_ s_ m_ a_ below meth cd Q X fin ls hl hJ => ?_)
  have hx := X.1
  have hb := X.2.1
  have hl : lv_has ls 1 [(0, .ref (B + 0))] := hl
  refine lv_aload_n hx hb dX6_obey_0 rfl (lv_at hl 0 rfl) ?_
  refine gX6_46 X hJ  dX6_obey_1 ?_
  refine gX6_225 X hJ (w := g.2.1) rfl dX6_obey_4 ?_
  by_cases c_7_98 : g.2.1 5 = 98
  · rw [c_7_98]
    refine lv_tableIn (tgt := 64) hx hb dX6_obey_7 (by decide) (by decide) (off := 57) (by decide) (by decide) ?_
    refine lv_aload_n hx hb dX6_obey_64 rfl (lv_at hl 0 rfl) ?_
    refine gX6_10 X hJ  dX6_obey_65 ?_
    refine lv_aload_n hx hb dX6_obey_68 rfl (lv_at hl 0 rfl) ?_
    refine gX6_46 X hJ  dX6_obey_69 ?_
    refine gX6_228 X hJ (w := g.2.1) rfl dX6_obey_72 ?_
    refine lv_aload_n hx hb dX6_obey_75 rfl (lv_at hl 0 rfl) ?_
    refine gX6_46 X hJ  dX6_obey_76 ?_
    refine gX6_231 X hJ (w := g.2.1) rfl dX6_obey_79 ?_
    refine lv_aload_n hx hb dX6_obey_82 rfl (lv_at hl 0 rfl) ?_
    refine gX6_46 X hJ  dX6_obey_83 ?_
    refine gX6_234 X hJ (w := g.2.1) rfl dX6_obey_86 ?_
    refine kX6_62 X hJ (by have h := mX5_addBridge l E B g 0 (g.2.1 6) (g.2.1 7) (g.2.1 8) (g.1 0) (by omega) ((hgn).1 0 (by omega)); rw [upW_self] at h; exact h) rfl (lt_W0 (by omega)) (at_W (by omega) rfl) hl.1 ⟨Nat.le_of_ble_eq_true rfl, Nat.le_of_ble_eq_true rfl⟩ ⟨Nat.le_refl _, Nat.le_refl _⟩ (rest := []) rfl (Nat.le_of_ble_eq_true rfl) dX6_obey_89 (fun H locs hJ => ?_)
    have hs : sX6_obey g = ((sX5_addBridge (g.1 0) (g.2.1 6) (g.2.1 7) (g.2.1 8)).1, upW g 0 (sX5_addBridge (g.1 0) (g.2.1 6) (g.2.1 7) (g.2.1 8)).2) := by unfold sX6_obey; rw [if_pos c_7_98]
    exact fin (by rw [hs]; dsimp only; exact hJ) (by rw [hs]) dX6_obey_92
  by_cases c_7_99 : g.2.1 5 = 99
  · rw [c_7_99]
    refine lv_tableIn (tgt := 93) hx hb dX6_obey_7 (by decide) (by decide) (off := 86) (by decide) (by decide) ?_
    refine lv_aload_n hx hb dX6_obey_93 rfl (lv_at hl 0 rfl) ?_
    refine gX6_10 X hJ  dX6_obey_94 ?_
    refine lv_aload_n hx hb dX6_obey_97 rfl (lv_at hl 0 rfl) ?_
    refine gX6_46 X hJ  dX6_obey_98 ?_
    refine gX6_228 X hJ (w := g.2.1) rfl dX6_obey_101 ?_
    refine lv_aload_n hx hb dX6_obey_104 rfl (lv_at hl 0 rfl) ?_
    refine gX6_46 X hJ  dX6_obey_105 ?_
    refine gX6_231 X hJ (w := g.2.1) rfl dX6_obey_108 ?_
    refine kX6_66 X hJ (by have h := mX5_addCart l E B g 0 (g.2.1 6) (g.2.1 7) (g.1 0) (by omega) ((hgn).1 0 (by omega)); rw [upW_self] at h; exact h) rfl (lt_W0 (by omega)) (at_W (by omega) rfl) hl.1 ⟨Nat.le_of_ble_eq_true rfl, Nat.le_of_ble_eq_true rfl⟩ ⟨Nat.le_refl _, Nat.le_refl _⟩ (rest := []) rfl (Nat.le_of_ble_eq_true rfl) dX6_obey_111 (fun H locs hJ => ?_)
    have hs : sX6_obey g = ((sX5_addCart (g.1 0) (g.2.1 6) (g.2.1 7)).1, upW g 0 (sX5_addCart (g.1 0) (g.2.1 6) (g.2.1 7)).2) := by unfold sX6_obey; rw [if_neg c_7_98, if_pos c_7_99]
    exact fin (by rw [hs]; dsimp only; exact hJ) (by rw [hs]) dX6_obey_114
  by_cases c_7_103 : g.2.1 5 = 103
  · rw [c_7_103]
    refine lv_tableIn (tgt := 115) hx hb dX6_obey_7 (by decide) (by decide) (off := 108) (by decide) (by decide) ?_
    refine lv_aload_n hx hb dX6_obey_115 rfl (lv_at hl 0 rfl) ?_
    refine gX6_10 X hJ  dX6_obey_116 ?_
    refine lv_aload_n hx hb dX6_obey_119 rfl (lv_at hl 0 rfl) ?_
    refine gX6_46 X hJ  dX6_obey_120 ?_
    refine gX6_228 X hJ (w := g.2.1) rfl dX6_obey_123 ?_
    refine lv_aload_n hx hb dX6_obey_126 rfl (lv_at hl 0 rfl) ?_
    refine gX6_46 X hJ  dX6_obey_127 ?_
    refine gX6_231 X hJ (w := g.2.1) rfl dX6_obey_130 ?_
    refine lv_aload_n hx hb dX6_obey_133 rfl (lv_at hl 0 rfl) ?_
    refine gX6_46 X hJ  dX6_obey_134 ?_
    refine gX6_234 X hJ (w := g.2.1) rfl dX6_obey_137 ?_
    refine kX6_69 X hJ (by have h := mX5_comeToWait l E B g 0 (g.2.1 6) (g.2.1 7) (g.2.1 8) (g.1 0) (by omega) ((hgn).1 0 (by omega)); rw [upW_self] at h; exact h) rfl (lt_W0 (by omega)) (at_W (by omega) rfl) hl.1 ⟨Nat.le_of_ble_eq_true rfl, Nat.le_of_ble_eq_true rfl⟩ ⟨Nat.le_refl _, Nat.le_refl _⟩ (rest := []) rfl (Nat.le_of_ble_eq_true rfl) dX6_obey_140 (fun H locs hJ => ?_)
    have hs : sX6_obey g = ((sX5_comeToWait (g.1 0) (g.2.1 6) (g.2.1 7) (g.2.1 8)).1, upW g 0 (sX5_comeToWait (g.1 0) (g.2.1 6) (g.2.1 7) (g.2.1 8)).2) := by unfold sX6_obey; rw [if_neg c_7_98, if_neg c_7_99, if_pos c_7_103]
    exact fin (by rw [hs]; dsimp only; exact hJ) (by rw [hs]) dX6_obey_143
  by_cases c_7_104 : g.2.1 5 = 104
  · rw [c_7_104]
    refine lv_tableIn (tgt := 144) hx hb dX6_obey_7 (by decide) (by decide) (off := 137) (by decide) (by decide) ?_
    refine lv_aload_n hx hb dX6_obey_144 rfl (lv_at hl 0 rfl) ?_
    refine gX6_10 X hJ  dX6_obey_145 ?_
    refine lv_aload_n hx hb dX6_obey_148 rfl (lv_at hl 0 rfl) ?_
    refine gX6_46 X hJ  dX6_obey_149 ?_
    refine gX6_228 X hJ (w := g.2.1) rfl dX6_obey_152 ?_
    refine lv_aload_n hx hb dX6_obey_155 rfl (lv_at hl 0 rfl) ?_
    refine gX6_46 X hJ  dX6_obey_156 ?_
    refine gX6_231 X hJ (w := g.2.1) rfl dX6_obey_159 ?_
    refine kX6_75 X hJ (by have h := mX5_buyHint l E B g 0 (g.2.1 6) (g.2.1 7) (g.1 0) (by omega) ((hgn).1 0 (by omega)); rw [upW_self] at h; exact h) rfl (lt_W0 (by omega)) (at_W (by omega) rfl) hl.1 ⟨Nat.le_of_ble_eq_true rfl, Nat.le_of_ble_eq_true rfl⟩ ⟨Nat.le_refl _, Nat.le_refl _⟩ (rest := []) rfl (Nat.le_of_ble_eq_true rfl) dX6_obey_162 (fun H locs hJ => ?_)
    have hs : sX6_obey g = ((sX5_buyHint (g.1 0) (g.2.1 6) (g.2.1 7)).1, upW g 0 (sX5_buyHint (g.1 0) (g.2.1 6) (g.2.1 7)).2) := by unfold sX6_obey; rw [if_neg c_7_98, if_neg c_7_99, if_neg c_7_103, if_pos c_7_104]
    exact fin (by rw [hs]; dsimp only; exact hJ) (by rw [hs]) dX6_obey_165
  by_cases c_7_108 : g.2.1 5 = 108
  · rw [c_7_108]
    refine lv_tableIn (tgt := 166) hx hb dX6_obey_7 (by decide) (by decide) (off := 159) (by decide) (by decide) ?_
    refine lv_aload_n hx hb dX6_obey_166 rfl (lv_at hl 0 rfl) ?_
    refine gX6_10 X hJ  dX6_obey_167 ?_
    refine lv_aload_n hx hb dX6_obey_170 rfl (lv_at hl 0 rfl) ?_
    refine gX6_46 X hJ  dX6_obey_171 ?_
    refine gX6_228 X hJ (w := g.2.1) rfl dX6_obey_174 ?_
    refine kX6_72 X hJ (by have h := mX5_stopWaiting l E B g 0 (g.2.1 6) (g.1 0) (by omega) ((hgn).1 0 (by omega)); rw [upW_self] at h; exact h) rfl (lt_W0 (by omega)) (at_W (by omega) rfl) hl.1 ⟨Nat.le_of_ble_eq_true rfl, Nat.le_of_ble_eq_true rfl⟩ ⟨Nat.le_refl _, Nat.le_refl _⟩ (rest := []) rfl (Nat.le_of_ble_eq_true rfl) dX6_obey_177 (fun H locs hJ => ?_)
    have hs : sX6_obey g = ((sX5_stopWaiting (g.1 0) (g.2.1 6)).1, upW g 0 (sX5_stopWaiting (g.1 0) (g.2.1 6)).2) := by unfold sX6_obey; rw [if_neg c_7_98, if_neg c_7_99, if_neg c_7_103, if_neg c_7_104, if_pos c_7_108]
    exact fin (by rw [hs]; dsimp only; exact hJ) (by rw [hs]) dX6_obey_180
  refine rtabOut (tgt := 181) hx hb dX6_obey_7 (by decide) (fun h1 h2 => ?_) ?_
  · have e98 := ne_toInt (n := 98) c_7_98 (by decide); have e99 := ne_toInt (n := 99) c_7_99 (by decide); have e103 := ne_toInt (n := 103) c_7_103 (by decide); have e104 := ne_toInt (n := 104) c_7_104 (by decide); have e108 := ne_toInt (n := 108) c_7_108 (by decide)
    rcases (show (g.2.1 5 : Int32).toInt = 100 ∨ (g.2.1 5 : Int32).toInt = 101 ∨ (g.2.1 5 : Int32).toInt = 102 ∨ (g.2.1 5 : Int32).toInt = 105 ∨ (g.2.1 5 : Int32).toInt = 106 ∨ (g.2.1 5 : Int32).toInt = 107 by omega) with hq | hq | hq | hq | hq | hq <;> (rw [hq]; decide)
  refine lv_aload_n hx hb dX6_obey_181 rfl (lv_at hl 0 rfl) ?_
  refine gX6_10 X hJ  dX6_obey_182 ?_
  refine lv_aload_n hx hb dX6_obey_185 rfl (lv_at hl 0 rfl) ?_
  refine gX6_46 X hJ  dX6_obey_186 ?_
  refine gX6_228 X hJ (w := g.2.1) rfl dX6_obey_189 ?_
  refine kX6_78 X hJ (by have h := mX5_passHours l E B g 0 (g.2.1 6) (g.1 0) (by omega) ((hgn).1 0 (by omega)); rw [upW_self] at h; exact h) rfl (lt_W0 (by omega)) (at_W (by omega) rfl) hl.1 ⟨Nat.le_of_ble_eq_true rfl, Nat.le_of_ble_eq_true rfl⟩ ⟨Nat.le_refl _, Nat.le_refl _⟩ (rest := []) rfl (Nat.le_of_ble_eq_true rfl) dX6_obey_192 (fun H locs hJ => ?_)
  have hs : sX6_obey g = ((sX5_passHours (g.1 0) (g.2.1 6)).1, upW g 0 (sX5_passHours (g.1 0) (g.2.1 6)).2) := by unfold sX6_obey; rw [if_neg c_7_98, if_neg c_7_99, if_neg c_7_103, if_neg c_7_104, if_neg c_7_108]
  exact fin (by rw [hs]; dsimp only; exact hJ) (by rw [hs]) dX6_obey_195

theorem Gn_sX6_obey {g : GS}  (h : Gn g) : Gn (sX6_obey g).2 := by
  unfold sX6_obey
  exact Gn_i2 (Gn_p2 (Gn_upW (h) (Cn_addBridge ((h).1 0 (by omega))))) (Gn_i2 (Gn_p2 (Gn_upW (h) (Cn_addCart ((h).1 0 (by omega))))) (Gn_i2 (Gn_p2 (Gn_upW (h) (Cn_comeToWait ((h).1 0 (by omega))))) (Gn_i2 (Gn_p2 (Gn_upW (h) (Cn_buyHint ((h).1 0 (by omega))))) (Gn_i2 (Gn_p2 (Gn_upW (h) (Cn_stopWaiting ((h).1 0 (by omega))))) (Gn_p2 (Gn_upW (h) (Cn_passHours ((h).1 0 (by omega)))))))))
def bX6_carryOut_35  : Nat → GS → Nat → Int32 × GS
  | 0, g35, _ => (0, g35)
  | n + 1, g35, p => if 80 ≤ nI p then (((sX6_recorded (upC g35 (sX4_clear g35.2.1)) (nI p)).1, (sX6_recorded (upC g35 (sX4_clear g35.2.1)) (nI p)).2)) else (if (sX3_readOrder g35.2.1).1 = 0 then (((sX6_recorded (upC (upC g35 (sX3_readOrder g35.2.1).2) (sX4_clear ((upC g35 (sX3_readOrder g35.2.1).2).2.1))) (nI p)).1, (sX6_recorded (upC (upC g35 (sX3_readOrder g35.2.1).2) (sX4_clear ((upC g35 (sX3_readOrder g35.2.1).2).2.1))) (nI p)).2)) else (if (sX6_obey (upC g35 (sX3_readOrder g35.2.1).2)).1 < 0 then (((sX6_recorded (upC ((sX6_obey (upC g35 (sX3_readOrder g35.2.1).2)).2) (sX4_clear (((sX6_obey (upC g35 (sX3_readOrder g35.2.1).2)).2).2.1))) (nI p)).1, (sX6_recorded (upC ((sX6_obey (upC g35 (sX3_readOrder g35.2.1).2)).2) (sX4_clear (((sX6_obey (upC g35 (sX3_readOrder g35.2.1).2)).2).2.1))) (nI p)).2)) else (bX6_carryOut_35  n (upC ((sX6_obey (upC g35 (sX3_readOrder g35.2.1).2)).2) (sX3_readSign (((sX6_obey (upC g35 (sX3_readOrder g35.2.1).2)).2).2.1) 59).2) (p + 1))))
def sX6_carryOut (g : GS) : Int32 × GS := if (sX3_faultPlace g.2.1).1 = (-6) then (bX6_carryOut_35  81 (upC (sX2_note (upC g (sX3_faultPlace g.2.1).2)) (sX3_goToStart ((sX2_note (upC g (sX3_faultPlace g.2.1).2)).2.1))) 0) else (((-3), upC g (sX3_faultPlace g.2.1).2))
set_option maxHeartbeats 4000000 in
set_option maxRecDepth 100000 in
theorem mX6_carryOut (l : Launch) (E : EE) (B : Nat) (g : GS)  (hgn : Gn g) : CG l yX6_carryOut cX6_carryOut 2 (some .int) 7 158 E B [.ref (B + 0)] g (some (.int (sX6_carryOut g).1)) ((sX6_carryOut g).2) := by
  refine mkI (own := RX6) (ty := .int) rfl (by decide) rfl (rfl) (Nat.le_of_ble_eq_true rfl) (fun P_ e_ s_ m_ a_ below meth cd Q X fin ls hl hJ => ?_)
  have hx := X.1
  have hb := X.2.1
  have hl : lv_has ls 2 [(0, .ref (B + 0))] := hl
  have bk_35 : ∀ (n : Nat) (g35 : GS)  (p : Nat), 80 - p < n → (Gn g35) → (p ≤ 80) → ∀ (H : Heap) (locs : List Loc) (ls : Array Slot), JG E B s_ (g35) H locs → lv_has ls 2 [(0, .ref (B + 0)), (1, .int (nI p))] → sX6_carryOut g = bX6_carryOut_35  n g35 p → W P_ l e_ (rmm 7 158 0 0) s_ m_ a_ below meth cd H locs 0 0 Q (F0 m_ 35 ls []) := by
    intro n
    induction n with
    | zero => intro g35 p hm; exact absurd hm (Nat.not_lt_zero _)
    | succ n ih =>
      intro g35 p hm hgn hp H locs ls hJ hl hs
      refine lv_iload_n hx hb dX6_carryOut_35 rfl (lv_at hl 1 rfl) ?_
      refine lv_bipush (v := 80) hx hb dX6_carryOut_36 (by decide) ?_
      refine lv_icmp_ge (tgt := 74) hx hb dX6_carryOut_38 (by decide) (fun c_38 => ?_) (fun c_38 => ?_)
      · skip
        refine lv_aload_n hx hb dX6_carryOut_74 rfl (lv_at hl 0 rfl) ?_
        refine gX6_37 X hJ  dX6_carryOut_75 ?_
        refine kX6_85 X hJ (mX4_clear l E B g35 g35.2.1) rfl (by omega) (at_P rfl) hl.1 ⟨Nat.le_of_ble_eq_true rfl, Nat.le_of_ble_eq_true rfl⟩ ⟨Nat.le_refl _, Nat.le_refl _⟩ (rest := []) rfl (Nat.le_of_ble_eq_true rfl) dX6_carryOut_78 (fun H locs hJ => ?_)
        refine lv_aload_n hx hb dX6_carryOut_81 rfl (lv_at hl 0 rfl) ?_
        refine lv_iload_n hx hb dX6_carryOut_82 rfl (lv_at hl 1 rfl) ?_
        refine kX6_58 X hJ (mX6_recorded l E B (upC g35 (sX4_clear g35.2.1)) (nI p)) rfl (by omega) at_X hl.1 ⟨Nat.le_of_ble_eq_true rfl, Nat.le_of_ble_eq_true rfl⟩ ⟨Nat.le_refl _, Nat.le_refl _⟩ (rest := []) rfl (Nat.le_of_ble_eq_true rfl) dX6_carryOut_83 (fun H locs hJ => ?_)
        have hs : sX6_carryOut g = ((sX6_recorded (upC g35 (sX4_clear g35.2.1)) (nI p)).1, (sX6_recorded (upC g35 (sX4_clear g35.2.1)) (nI p)).2) := hs.trans (by rw [bX6_carryOut_35, if_pos c_38])
        exact fin (by rw [hs]; dsimp only; exact hJ) (by rw [hs]) dX6_carryOut_86
      · skip
        have hp2 := lit_lt (n := 80) c_38 (by omega) (by omega)
        refine lv_aload_n hx hb dX6_carryOut_41 rfl (lv_at hl 0 rfl) ?_
        refine gX6_46 X hJ  dX6_carryOut_42 ?_
        refine kX6_191 X hJ (mX3_readOrder l E B g35 g35.2.1 ((hgn).2.1)) rfl (by omega) (at_O rfl) hl.1 ⟨Nat.le_of_ble_eq_true rfl, Nat.le_of_ble_eq_true rfl⟩ ⟨Nat.le_refl _, Nat.le_refl _⟩ (rest := []) rfl (Nat.le_of_ble_eq_true rfl) dX6_carryOut_45 (fun H locs hJ => ?_)
        refine lv_if_eq (tgt := 74) hx hb dX6_carryOut_48 (by decide) (fun c_48 => ?_) (fun c_48 => ?_)
        · skip
          refine lv_aload_n hx hb dX6_carryOut_74 rfl (lv_at hl 0 rfl) ?_
          refine gX6_37 X hJ  dX6_carryOut_75 ?_
          refine kX6_85 X hJ (mX4_clear l E B (upC g35 (sX3_readOrder g35.2.1).2) ((upC g35 (sX3_readOrder g35.2.1).2).2.1)) rfl (by omega) (at_P rfl) hl.1 ⟨Nat.le_of_ble_eq_true rfl, Nat.le_of_ble_eq_true rfl⟩ ⟨Nat.le_refl _, Nat.le_refl _⟩ (rest := []) rfl (Nat.le_of_ble_eq_true rfl) dX6_carryOut_78 (fun H locs hJ => ?_)
          refine lv_aload_n hx hb dX6_carryOut_81 rfl (lv_at hl 0 rfl) ?_
          refine lv_iload_n hx hb dX6_carryOut_82 rfl (lv_at hl 1 rfl) ?_
          refine kX6_58 X hJ (mX6_recorded l E B (upC (upC g35 (sX3_readOrder g35.2.1).2) (sX4_clear ((upC g35 (sX3_readOrder g35.2.1).2).2.1))) (nI p)) rfl (by omega) at_X hl.1 ⟨Nat.le_of_ble_eq_true rfl, Nat.le_of_ble_eq_true rfl⟩ ⟨Nat.le_refl _, Nat.le_refl _⟩ (rest := []) rfl (Nat.le_of_ble_eq_true rfl) dX6_carryOut_83 (fun H locs hJ => ?_)
          have hs : sX6_carryOut g = ((sX6_recorded (upC (upC g35 (sX3_readOrder g35.2.1).2) (sX4_clear ((upC g35 (sX3_readOrder g35.2.1).2).2.1))) (nI p)).1, (sX6_recorded (upC (upC g35 (sX3_readOrder g35.2.1).2) (sX4_clear ((upC g35 (sX3_readOrder g35.2.1).2).2.1))) (nI p)).2) := hs.trans (by rw [bX6_carryOut_35, if_neg c_38, if_pos c_48])
          exact fin (by rw [hs]; dsimp only; exact hJ) (by rw [hs]) dX6_carryOut_86
        · skip
          refine lv_aload_n hx hb dX6_carryOut_51 rfl (lv_at hl 0 rfl) ?_
          refine kX6_194 X hJ (mX6_obey l E B (upC g35 (sX3_readOrder g35.2.1).2) (Gn_upC (hgn) (⟨Pd_sX3_readOrder ((hgn).2.1), Sp_sX3_readOrder ((hgn).2.2)⟩))) rfl (by omega) at_X hl.1 ⟨Nat.le_of_ble_eq_true rfl, Nat.le_of_ble_eq_true rfl⟩ ⟨Nat.le_refl _, Nat.le_refl _⟩ (rest := []) rfl (Nat.le_of_ble_eq_true rfl) dX6_carryOut_52 (fun H locs hJ => ?_)
          refine lv_if_lt (tgt := 74) hx hb dX6_carryOut_55 (by decide) (fun c_55 => ?_) (fun c_55 => ?_)
          · skip
            refine lv_aload_n hx hb dX6_carryOut_74 rfl (lv_at hl 0 rfl) ?_
            refine gX6_37 X hJ  dX6_carryOut_75 ?_
            refine kX6_85 X hJ (mX4_clear l E B ((sX6_obey (upC g35 (sX3_readOrder g35.2.1).2)).2) (((sX6_obey (upC g35 (sX3_readOrder g35.2.1).2)).2).2.1)) rfl (by omega) (at_P rfl) hl.1 ⟨Nat.le_of_ble_eq_true rfl, Nat.le_of_ble_eq_true rfl⟩ ⟨Nat.le_refl _, Nat.le_refl _⟩ (rest := []) rfl (Nat.le_of_ble_eq_true rfl) dX6_carryOut_78 (fun H locs hJ => ?_)
            refine lv_aload_n hx hb dX6_carryOut_81 rfl (lv_at hl 0 rfl) ?_
            refine lv_iload_n hx hb dX6_carryOut_82 rfl (lv_at hl 1 rfl) ?_
            refine kX6_58 X hJ (mX6_recorded l E B (upC ((sX6_obey (upC g35 (sX3_readOrder g35.2.1).2)).2) (sX4_clear (((sX6_obey (upC g35 (sX3_readOrder g35.2.1).2)).2).2.1))) (nI p)) rfl (by omega) at_X hl.1 ⟨Nat.le_of_ble_eq_true rfl, Nat.le_of_ble_eq_true rfl⟩ ⟨Nat.le_refl _, Nat.le_refl _⟩ (rest := []) rfl (Nat.le_of_ble_eq_true rfl) dX6_carryOut_83 (fun H locs hJ => ?_)
            have hs : sX6_carryOut g = ((sX6_recorded (upC ((sX6_obey (upC g35 (sX3_readOrder g35.2.1).2)).2) (sX4_clear (((sX6_obey (upC g35 (sX3_readOrder g35.2.1).2)).2).2.1))) (nI p)).1, (sX6_recorded (upC ((sX6_obey (upC g35 (sX3_readOrder g35.2.1).2)).2) (sX4_clear (((sX6_obey (upC g35 (sX3_readOrder g35.2.1).2)).2).2.1))) (nI p)).2) := hs.trans (by rw [bX6_carryOut_35, if_neg c_38, if_neg c_48, if_pos c_55])
            exact fin (by rw [hs]; dsimp only; exact hJ) (by rw [hs]) dX6_carryOut_86
          · skip
            refine lv_iinc (v := nI (p + 1)) (lv' := [(1, .int (nI (p + 1))), (0, .ref (B + 0))]) hx hb dX6_carryOut_58 hl (k := 1) rfl (by first | exact nI_add _ _ | rfl) (by decide) rfl (fun ls hl => ?_)
            refine lv_aload_n hx hb dX6_carryOut_61 rfl (lv_at hl 1 rfl) ?_
            refine gX6_46 X hJ  dX6_carryOut_62 ?_
            refine lv_bipush (v := 59) hx hb dX6_carryOut_65 (by decide) ?_
            refine kX6_197 X hJ (mX3_readSign l E B ((sX6_obey (upC g35 (sX3_readOrder g35.2.1).2)).2) 59 (((sX6_obey (upC g35 (sX3_readOrder g35.2.1).2)).2).2.1) ((Gn_sX6_obey (Gn_upC (hgn) (⟨Pd_sX3_readOrder ((hgn).2.1), Sp_sX3_readOrder ((hgn).2.2)⟩))).2.1)) rfl (by omega) (at_O rfl) hl.1 ⟨Nat.le_of_ble_eq_true rfl, Nat.le_of_ble_eq_true rfl⟩ ⟨Nat.le_refl _, Nat.le_refl _⟩ (rest := []) rfl (Nat.le_of_ble_eq_true rfl) dX6_carryOut_67 (fun H locs hJ => ?_)
            refine lv_pop hx hb dX6_carryOut_70 rfl ?_
            refine lv_goto (tgt := 35) hx hb dX6_carryOut_71 (by decide) ?_
            have hs : sX6_carryOut g = bX6_carryOut_35  n (upC ((sX6_obey (upC g35 (sX3_readOrder g35.2.1).2)).2) (sX3_readSign (((sX6_obey (upC g35 (sX3_readOrder g35.2.1).2)).2).2.1) 59).2) (p + 1) := hs.trans (by rw [bX6_carryOut_35, if_neg c_38, if_neg c_48, if_neg c_55])
            exact ih (upC ((sX6_obey (upC g35 (sX3_readOrder g35.2.1).2)).2) (sX3_readSign (((sX6_obey (upC g35 (sX3_readOrder g35.2.1).2)).2).2.1) 59).2) (p + 1) (by omega) (Gn_upC (Gn_sX6_obey (Gn_upC (hgn) (⟨Pd_sX3_readOrder ((hgn).2.1), Sp_sX3_readOrder ((hgn).2.2)⟩))) (⟨Pd_sX3_readSign ((Gn_sX6_obey (Gn_upC (hgn) (⟨Pd_sX3_readOrder ((hgn).2.1), Sp_sX3_readOrder ((hgn).2.2)⟩))).2.1), Sp_sX3_readSign ((Gn_sX6_obey (Gn_upC (hgn) (⟨Pd_sX3_readOrder ((hgn).2.1), Sp_sX3_readOrder ((hgn).2.2)⟩))).2.2)⟩)) (by omega) _ _ _ hJ (lv_sub hl [1, 0] rfl) hs
  refine lv_aload_n hx hb dX6_carryOut_0 rfl (lv_at hl 0 rfl) ?_
  refine gX6_46 X hJ  dX6_carryOut_1 ?_
  refine kX6_185 X hJ (mX3_faultPlace l E B g g.2.1 ((hgn).2.1)) rfl (by omega) (at_O rfl) hl.1 ⟨Nat.le_of_ble_eq_true rfl, Nat.le_of_ble_eq_true rfl⟩ ⟨Nat.le_refl _, Nat.le_refl _⟩ (rest := []) rfl (Nat.le_of_ble_eq_true rfl) dX6_carryOut_4 (fun H locs hJ => ?_)
  refine lv_bipush (v := (-6)) hx hb dX6_carryOut_7 (by decide) ?_
  refine lv_icmp_eq (tgt := 15) hx hb dX6_carryOut_9 (by decide) (fun c_9 => ?_) (fun c_9 => ?_)
  · skip
    refine lv_aload_n hx hb dX6_carryOut_15 rfl (lv_at hl 0 rfl) ?_
    refine gX6_22 X hJ  dX6_carryOut_16 ?_
    refine lv_aload_n hx hb dX6_carryOut_19 rfl (lv_at hl 0 rfl) ?_
    refine gX6_10 X hJ  dX6_carryOut_20 ?_
    refine kX6_50 X hJ (mX2_note l E B (upC g (sX3_faultPlace g.2.1).2) (Gn_upC (hgn) (⟨Pd_sX3_faultPlace ((hgn).2.1), Sp_sX3_faultPlace ((hgn).2.2)⟩))) rfl (by omega) (at_H rfl) hl.1 ⟨Nat.le_of_ble_eq_true rfl, Nat.le_of_ble_eq_true rfl⟩ ⟨Nat.le_refl _, Nat.le_refl _⟩ (rest := []) rfl (Nat.le_of_ble_eq_true rfl) dX6_carryOut_23 (fun H locs hJ => ?_)
    refine lv_iconst (v := 0) hx hb dX6_carryOut_26 (by decide) ?_
    refine lv_istore_n (lv' := [(1, .int 0), (0, .ref (B + 0))]) hx hb dX6_carryOut_27 rfl hl (by decide) rfl (fun ls hl => ?_)
    refine lv_aload_n hx hb dX6_carryOut_28 rfl (lv_at hl 1 rfl) ?_
    refine gX6_46 X hJ  dX6_carryOut_29 ?_
    refine kX6_188 X hJ (mX3_goToStart l E B (sX2_note (upC g (sX3_faultPlace g.2.1).2)) ((sX2_note (upC g (sX3_faultPlace g.2.1).2)).2.1)) rfl (by omega) (at_O rfl) hl.1 ⟨Nat.le_of_ble_eq_true rfl, Nat.le_of_ble_eq_true rfl⟩ ⟨Nat.le_refl _, Nat.le_refl _⟩ (rest := []) rfl (Nat.le_of_ble_eq_true rfl) dX6_carryOut_32 (fun H locs hJ => ?_)
    have hs : sX6_carryOut g = bX6_carryOut_35  81 (upC (sX2_note (upC g (sX3_faultPlace g.2.1).2)) (sX3_goToStart ((sX2_note (upC g (sX3_faultPlace g.2.1).2)).2.1))) 0 := by unfold sX6_carryOut; rw [if_pos c_9]
    exact bk_35 81 (upC (sX2_note (upC g (sX3_faultPlace g.2.1).2)) (sX3_goToStart ((sX2_note (upC g (sX3_faultPlace g.2.1).2)).2.1))) 0 (by omega) (Gn_upC (Gn_note (Gn_upC (hgn) (⟨Pd_sX3_faultPlace ((hgn).2.1), Sp_sX3_faultPlace ((hgn).2.2)⟩))) (⟨Pd_goToStart ((Gn_note (Gn_upC (hgn) (⟨Pd_sX3_faultPlace ((hgn).2.1), Sp_sX3_faultPlace ((hgn).2.2)⟩))).2.1), Sp_sX3_goToStart ((Gn_note (Gn_upC (hgn) (⟨Pd_sX3_faultPlace ((hgn).2.1), Sp_sX3_faultPlace ((hgn).2.2)⟩))).2.2)⟩)) (by omega) _ _ _ hJ (lv_sub hl [1, 0] rfl) hs
  · skip
    refine lv_bipush (v := (-3)) hx hb dX6_carryOut_12 (by decide) ?_
    have hs : sX6_carryOut g = ((-3), upC g (sX3_faultPlace g.2.1).2) := by unfold sX6_carryOut; rw [if_neg c_9]
    exact fin (by rw [hs]; dsimp only; exact hJ) (by rw [hs]) dX6_carryOut_14

