def bL_print_133 (g : GS) : Nat → Int64 → Nat → Int64
  | 0, _, _ => 0
  | n + 1, v1, v3 => if 8 * (sX6_count g 2) ≤ nI v3 then (v1) else (bL_print_133 g n ((31 * v1) + ((sX6_ofCart g ((nI v3) / 8) ((nI v3) - (nI v3) / 8 * 8)).toInt64)) (v3 + 1))
def bL_print_33 (g : GS) : Nat → Int64 → Nat → Int64
  | 0, _, _ => 0
  | n + 1, v1, v3 => if 8 * (sX6_count g 1) ≤ nI v3 then (bL_print_133 g (nn (8 * (sX6_count g 2)) + 1) v1 0) else (bL_print_33 g n ((31 * (((31 * ((31 * v1) + ((sX6_ofBridge g ((nI v3) / 8) ((nI v3) - (nI v3) / 8 * 8)).toInt64))) + (9 * ((sX6_knows g ((nI v3) - (nI v3) / 8 * 8) ((nI v3) / 8) 0).toInt64))) + ((sX6_knows g ((nI v3) - (nI v3) / 8 * 8) ((nI v3) / 8) 1).toInt64))) + ((sX6_waits g ((nI v3) / 8) ((nI v3) - (nI v3) / 8 * 8)).toInt64)) (v3 + 1))
def bL_print_6 (g : GS) : Nat → Int64 → Nat → Int64
  | 0, _, _ => 0
  | n + 1, v1, v3 => if 13 ≤ nI v3 then (bL_print_33 g (nn (8 * (sX6_count g 1)) + 1) v1 0) else (bL_print_6 g n ((31 * v1) + ((sX6_count g (nI v3)).toInt64)) (v3 + 1))
def sL_print (g : GS) : Int64 := bL_print_6 g 14 17 0
set_option maxHeartbeats 4000000 in
set_option maxRecDepth 100000 in
theorem mL_print (l : Launch) (E : EE) (B : Nat) (g : GS)  (hgn : Gn g) : CG l yL_print cL_print 4 (some .long) 4 87 E B [.ref (B + 0)] g (some (.long (sL_print g))) g := by
  refine mkJ (own := RL) rfl (by decide) rfl (Nat.le_of_ble_eq_true rfl) (fun P_ e_ s_ m_ a_ below meth cd Q X fin ls hl hJ => ?_)
  have hx := X.1
  have hb := X.2.1
  have hl : lv_has ls 4 [(0, .ref (B + 0))] := hl
  have bk_133 : ∀ (n : Nat) (v1 : Int64) (v3 : Nat), nn (8 * (sX6_count g 2)) - v3 < n → (v3 ≤ nn (8 * (sX6_count g 2))) → ∀ (H : Heap) (locs : List Loc) (ls : Array Slot), JG E B s_ g H locs → lv_has ls 4 [(0, .ref (B + 0)), (1, .long v1), (3, .int (nI v3))] → sL_print g = bL_print_133 g n v1 v3 → W P_ l e_ (rmm 4 87 0 0) s_ m_ a_ below meth cd H locs 0 0 Q (F0 m_ 133 ls []) := by
    intro n
    induction n with
    | zero => intro v1 v3 hm; exact absurd hm (Nat.not_lt_zero _)
    | succ n_133 ih_133 =>
      intro v1 v3 hm hp_133 H locs ls hJ hl hs
      refine lv_iload_n hx hb dL_print_133 rfl (lv_at hl 2 rfl) ?_
      refine lv_bipush (v := 8) hx hb dL_print_134 (by decide) ?_
      refine lv_aload_n hx hb dL_print_136 rfl (lv_at hl 0 rfl) ?_
      refine lv_iconst (v := 2) hx hb dL_print_137 (by decide) ?_
      refine kL_10 X hJ (mX6_count l E B g 2 (hgn)) rfl (by omega) at_X hl.1 ⟨Nat.le_of_ble_eq_true rfl, Nat.le_of_ble_eq_true rfl⟩ ⟨Nat.le_refl _, Nat.le_refl _⟩ (rest := [.int 8, .int (nI v3)]) rfl (Nat.le_of_ble_eq_true rfl) dL_print_138 (fun H locs hJ => ?_)
      refine lv_imul hx hb dL_print_141 ?_
      refine lv_icmp_ge (tgt := 171) hx hb dL_print_142 (by decide) (fun c_142 => ?_) (fun c_142 => ?_)
      · skip
        refine lv_lload_n hx hb dL_print_171 rfl (lv_at hl 1 rfl) ?_
        have hs : sL_print g = v1 := hs.trans (by rw [bL_print_133, if_pos c_142])
        exact fin hJ (by rw [hs]) dL_print_172
      · skip
        have hp2_133 : v3 < nn (8 * (sX6_count g 2)) := nlt_cnt c_142 (by have := nn_b (c := 8 * (sX6_count g 2)); omega)
        refine lv_ldc2 (own := RL) hx hb X.2.2.2.1 (X.2.2.2.2.1 (.constantLong RL 41 31) (tw (i := 473) (by decide +kernel) (by decide))) dL_print_145 ?_
        refine lv_lload_n hx hb dL_print_148 rfl (lv_at hl 1 rfl) ?_
        refine lv_lmul hx hb dL_print_149 ?_
        refine lv_aload_n hx hb dL_print_150 rfl (lv_at hl 0 rfl) ?_
        refine lv_iload_n hx hb dL_print_151 rfl (lv_at hl 2 rfl) ?_
        refine lv_bipush (v := 8) hx hb dL_print_152 (by decide) ?_
        refine lv_idiv hx hb dL_print_154 (by decide) ?_
        refine lv_iload_n hx hb dL_print_155 rfl (lv_at hl 2 rfl) ?_
        refine lv_bipush (v := 8) hx hb dL_print_156 (by decide) ?_
        refine lv_irem hx hb dL_print_158 (by decide) ?_
        refine kL_16 X hJ (mX6_ofCart l E B g ((nI v3) / 8) ((nI v3) - (nI v3) / 8 * 8) (hgn)) rfl (by omega) at_X hl.1 ⟨Nat.le_of_ble_eq_true rfl, Nat.le_of_ble_eq_true rfl⟩ ⟨Nat.le_refl _, Nat.le_refl _⟩ (rest := [.long (31 * v1)]) rfl (Nat.le_of_ble_eq_true rfl) dL_print_159 (fun H locs hJ => ?_)
        refine lv_i2l hx hb dL_print_162 rfl ?_
        refine lv_ladd hx hb dL_print_163 ?_
        refine lv_lstore_n (lv' := [(1, .long ((31 * v1) + ((sX6_ofCart g ((nI v3) / 8) ((nI v3) - (nI v3) / 8 * 8)).toInt64))), (0, .ref (B + 0)), (3, .int (nI v3))]) hx hb dL_print_164 rfl hl (by decide) rfl (fun ls hl => ?_)
        refine lv_iinc (v := nI (v3 + 1)) (lv' := [(3, .int (nI (v3 + 1))), (1, .long ((31 * v1) + ((sX6_ofCart g ((nI v3) / 8) ((nI v3) - (nI v3) / 8 * 8)).toInt64))), (0, .ref (B + 0))]) hx hb dL_print_165 hl (k := 2) rfl (by first | exact nI_add _ _ | rfl) (by decide) rfl (fun ls hl => ?_)
        refine lv_goto (tgt := 133) hx hb dL_print_168 (by decide) ?_
        have hs : sL_print g = bL_print_133 g n_133 ((31 * v1) + ((sX6_ofCart g ((nI v3) / 8) ((nI v3) - (nI v3) / 8 * 8)).toInt64)) (v3 + 1) := hs.trans (by rw [bL_print_133, if_neg c_142])
        exact ih_133 ((31 * v1) + ((sX6_ofCart g ((nI v3) / 8) ((nI v3) - (nI v3) / 8 * 8)).toInt64)) (v3 + 1) (by omega) (by omega) _ _ _ hJ (lv_sub hl [2, 1, 0] rfl) hs
  have bk_33 : ∀ (n : Nat) (v1 : Int64) (v3 : Nat), nn (8 * (sX6_count g 1)) - v3 < n → (v3 ≤ nn (8 * (sX6_count g 1))) → ∀ (H : Heap) (locs : List Loc) (ls : Array Slot), JG E B s_ g H locs → lv_has ls 4 [(0, .ref (B + 0)), (1, .long v1), (3, .int (nI v3))] → sL_print g = bL_print_33 g n v1 v3 → W P_ l e_ (rmm 4 87 0 0) s_ m_ a_ below meth cd H locs 0 0 Q (F0 m_ 33 ls []) := by
    intro n
    induction n with
    | zero => intro v1 v3 hm; exact absurd hm (Nat.not_lt_zero _)
    | succ n_33 ih_33 =>
      intro v1 v3 hm hp_33 H locs ls hJ hl hs
      refine lv_iload_n hx hb dL_print_33 rfl (lv_at hl 2 rfl) ?_
      refine lv_bipush (v := 8) hx hb dL_print_34 (by decide) ?_
      refine lv_aload_n hx hb dL_print_36 rfl (lv_at hl 0 rfl) ?_
      refine lv_iconst (v := 1) hx hb dL_print_37 (by decide) ?_
      refine kL_10 X hJ (mX6_count l E B g 1 (hgn)) rfl (by omega) at_X hl.1 ⟨Nat.le_of_ble_eq_true rfl, Nat.le_of_ble_eq_true rfl⟩ ⟨Nat.le_refl _, Nat.le_refl _⟩ (rest := [.int 8, .int (nI v3)]) rfl (Nat.le_of_ble_eq_true rfl) dL_print_38 (fun H locs hJ => ?_)
      refine lv_imul hx hb dL_print_41 ?_
      refine lv_icmp_ge (tgt := 131) hx hb dL_print_42 (by decide) (fun c_42 => ?_) (fun c_42 => ?_)
      · skip
        refine lv_iconst (v := 0) hx hb dL_print_131 (by decide) ?_
        refine lv_istore_n (lv' := [(3, .int 0), (0, .ref (B + 0)), (1, .long v1)]) hx hb dL_print_132 rfl hl (by decide) rfl (fun ls hl => ?_)
        have hs : sL_print g = bL_print_133 g (nn (8 * (sX6_count g 2)) + 1) v1 0 := hs.trans (by rw [bL_print_33, if_pos c_42])
        exact bk_133 (nn (8 * (sX6_count g 2)) + 1) v1 0 (by omega) (by omega) _ _ _ hJ (lv_sub hl [1, 2, 0] rfl) hs
      · skip
        have hp2_33 : v3 < nn (8 * (sX6_count g 1)) := nlt_cnt c_42 (by have := nn_b (c := 8 * (sX6_count g 1)); omega)
        refine lv_ldc2 (own := RL) hx hb X.2.2.2.1 (X.2.2.2.2.1 (.constantLong RL 41 31) (tw (i := 473) (by decide +kernel) (by decide))) dL_print_45 ?_
        refine lv_lload_n hx hb dL_print_48 rfl (lv_at hl 1 rfl) ?_
        refine lv_lmul hx hb dL_print_49 ?_
        refine lv_aload_n hx hb dL_print_50 rfl (lv_at hl 0 rfl) ?_
        refine lv_iload_n hx hb dL_print_51 rfl (lv_at hl 2 rfl) ?_
        refine lv_bipush (v := 8) hx hb dL_print_52 (by decide) ?_
        refine lv_idiv hx hb dL_print_54 (by decide) ?_
        refine lv_iload_n hx hb dL_print_55 rfl (lv_at hl 2 rfl) ?_
        refine lv_bipush (v := 8) hx hb dL_print_56 (by decide) ?_
        refine lv_irem hx hb dL_print_58 (by decide) ?_
        refine kL_26 X hJ (mX6_ofBridge l E B g ((nI v3) / 8) ((nI v3) - (nI v3) / 8 * 8) (hgn)) rfl (by omega) at_X hl.1 ⟨Nat.le_of_ble_eq_true rfl, Nat.le_of_ble_eq_true rfl⟩ ⟨Nat.le_refl _, Nat.le_refl _⟩ (rest := [.long (31 * v1)]) rfl (Nat.le_of_ble_eq_true rfl) dL_print_59 (fun H locs hJ => ?_)
        refine lv_i2l hx hb dL_print_62 rfl ?_
        refine lv_ladd hx hb dL_print_63 ?_
        refine lv_lstore_n (lv' := [(1, .long ((31 * v1) + ((sX6_ofBridge g ((nI v3) / 8) ((nI v3) - (nI v3) / 8 * 8)).toInt64))), (0, .ref (B + 0)), (3, .int (nI v3))]) hx hb dL_print_64 rfl hl (by decide) rfl (fun ls hl => ?_)
        refine lv_ldc2 (own := RL) hx hb X.2.2.2.1 (X.2.2.2.2.1 (.constantLong RL 41 31) (tw (i := 473) (by decide +kernel) (by decide))) dL_print_65 ?_
        refine lv_lload_n hx hb dL_print_68 rfl (lv_at hl 0 rfl) ?_
        refine lv_lmul hx hb dL_print_69 ?_
        refine lv_ldc2 (own := RL) hx hb X.2.2.2.1 (X.2.2.2.2.1 (.constantLong RL 43 9) (tw (i := 474) (by decide +kernel) (by decide))) dL_print_70 ?_
        refine lv_aload_n hx hb dL_print_73 rfl (lv_at hl 1 rfl) ?_
        refine lv_iload_n hx hb dL_print_74 rfl (lv_at hl 2 rfl) ?_
        refine lv_bipush (v := 8) hx hb dL_print_75 (by decide) ?_
        refine lv_irem hx hb dL_print_77 (by decide) ?_
        refine lv_iload_n hx hb dL_print_78 rfl (lv_at hl 2 rfl) ?_
        refine lv_bipush (v := 8) hx hb dL_print_79 (by decide) ?_
        refine lv_idiv hx hb dL_print_81 (by decide) ?_
        refine lv_iconst (v := 0) hx hb dL_print_82 (by decide) ?_
        refine kL_35 X hJ (mX6_knows l E B g ((nI v3) - (nI v3) / 8 * 8) ((nI v3) / 8) 0 (hgn)) rfl (by omega) at_X hl.1 ⟨Nat.le_of_ble_eq_true rfl, Nat.le_of_ble_eq_true rfl⟩ ⟨Nat.le_refl _, Nat.le_refl _⟩ (rest := [.long 9, .long (31 * ((31 * v1) + ((sX6_ofBridge g ((nI v3) / 8) ((nI v3) - (nI v3) / 8 * 8)).toInt64)))]) rfl (Nat.le_of_ble_eq_true rfl) dL_print_83 (fun H locs hJ => ?_)
        refine lv_i2l hx hb dL_print_86 rfl ?_
        refine lv_lmul hx hb dL_print_87 ?_
        refine lv_ladd hx hb dL_print_88 ?_
        refine lv_aload_n hx hb dL_print_89 rfl (lv_at hl 1 rfl) ?_
        refine lv_iload_n hx hb dL_print_90 rfl (lv_at hl 2 rfl) ?_
        refine lv_bipush (v := 8) hx hb dL_print_91 (by decide) ?_
        refine lv_irem hx hb dL_print_93 (by decide) ?_
        refine lv_iload_n hx hb dL_print_94 rfl (lv_at hl 2 rfl) ?_
        refine lv_bipush (v := 8) hx hb dL_print_95 (by decide) ?_
        refine lv_idiv hx hb dL_print_97 (by decide) ?_
        refine lv_iconst (v := 1) hx hb dL_print_98 (by decide) ?_
        refine kL_35 X hJ (mX6_knows l E B g ((nI v3) - (nI v3) / 8 * 8) ((nI v3) / 8) 1 (hgn)) rfl (by omega) at_X hl.1 ⟨Nat.le_of_ble_eq_true rfl, Nat.le_of_ble_eq_true rfl⟩ ⟨Nat.le_refl _, Nat.le_refl _⟩ (rest := [.long ((31 * ((31 * v1) + ((sX6_ofBridge g ((nI v3) / 8) ((nI v3) - (nI v3) / 8 * 8)).toInt64))) + (9 * ((sX6_knows g ((nI v3) - (nI v3) / 8 * 8) ((nI v3) / 8) 0).toInt64)))]) rfl (Nat.le_of_ble_eq_true rfl) dL_print_99 (fun H locs hJ => ?_)
        refine lv_i2l hx hb dL_print_102 rfl ?_
        refine lv_ladd hx hb dL_print_103 ?_
        refine lv_lstore_n (lv' := [(1, .long (((31 * ((31 * v1) + ((sX6_ofBridge g ((nI v3) / 8) ((nI v3) - (nI v3) / 8 * 8)).toInt64))) + (9 * ((sX6_knows g ((nI v3) - (nI v3) / 8 * 8) ((nI v3) / 8) 0).toInt64))) + ((sX6_knows g ((nI v3) - (nI v3) / 8 * 8) ((nI v3) / 8) 1).toInt64))), (0, .ref (B + 0)), (3, .int (nI v3))]) hx hb dL_print_104 rfl hl (by decide) rfl (fun ls hl => ?_)
        refine lv_ldc2 (own := RL) hx hb X.2.2.2.1 (X.2.2.2.2.1 (.constantLong RL 41 31) (tw (i := 473) (by decide +kernel) (by decide))) dL_print_105 ?_
        refine lv_lload_n hx hb dL_print_108 rfl (lv_at hl 0 rfl) ?_
        refine lv_lmul hx hb dL_print_109 ?_
        refine lv_aload_n hx hb dL_print_110 rfl (lv_at hl 1 rfl) ?_
        refine lv_iload_n hx hb dL_print_111 rfl (lv_at hl 2 rfl) ?_
        refine lv_bipush (v := 8) hx hb dL_print_112 (by decide) ?_
        refine lv_idiv hx hb dL_print_114 (by decide) ?_
        refine lv_iload_n hx hb dL_print_115 rfl (lv_at hl 2 rfl) ?_
        refine lv_bipush (v := 8) hx hb dL_print_116 (by decide) ?_
        refine lv_irem hx hb dL_print_118 (by decide) ?_
        refine kL_32 X hJ (mX6_waits l E B g ((nI v3) / 8) ((nI v3) - (nI v3) / 8 * 8) (hgn)) rfl (by omega) at_X hl.1 ⟨Nat.le_of_ble_eq_true rfl, Nat.le_of_ble_eq_true rfl⟩ ⟨Nat.le_refl _, Nat.le_refl _⟩ (rest := [.long (31 * (((31 * ((31 * v1) + ((sX6_ofBridge g ((nI v3) / 8) ((nI v3) - (nI v3) / 8 * 8)).toInt64))) + (9 * ((sX6_knows g ((nI v3) - (nI v3) / 8 * 8) ((nI v3) / 8) 0).toInt64))) + ((sX6_knows g ((nI v3) - (nI v3) / 8 * 8) ((nI v3) / 8) 1).toInt64)))]) rfl (Nat.le_of_ble_eq_true rfl) dL_print_119 (fun H locs hJ => ?_)
        refine lv_i2l hx hb dL_print_122 rfl ?_
        refine lv_ladd hx hb dL_print_123 ?_
        refine lv_lstore_n (lv' := [(1, .long ((31 * (((31 * ((31 * v1) + ((sX6_ofBridge g ((nI v3) / 8) ((nI v3) - (nI v3) / 8 * 8)).toInt64))) + (9 * ((sX6_knows g ((nI v3) - (nI v3) / 8 * 8) ((nI v3) / 8) 0).toInt64))) + ((sX6_knows g ((nI v3) - (nI v3) / 8 * 8) ((nI v3) / 8) 1).toInt64))) + ((sX6_waits g ((nI v3) / 8) ((nI v3) - (nI v3) / 8 * 8)).toInt64))), (0, .ref (B + 0)), (3, .int (nI v3))]) hx hb dL_print_124 rfl hl (by decide) rfl (fun ls hl => ?_)
        refine lv_iinc (v := nI (v3 + 1)) (lv' := [(3, .int (nI (v3 + 1))), (1, .long ((31 * (((31 * ((31 * v1) + ((sX6_ofBridge g ((nI v3) / 8) ((nI v3) - (nI v3) / 8 * 8)).toInt64))) + (9 * ((sX6_knows g ((nI v3) - (nI v3) / 8 * 8) ((nI v3) / 8) 0).toInt64))) + ((sX6_knows g ((nI v3) - (nI v3) / 8 * 8) ((nI v3) / 8) 1).toInt64))) + ((sX6_waits g ((nI v3) / 8) ((nI v3) - (nI v3) / 8 * 8)).toInt64))), (0, .ref (B + 0))]) hx hb dL_print_125 hl (k := 2) rfl (by first | exact nI_add _ _ | rfl) (by decide) rfl (fun ls hl => ?_)
        refine lv_goto (tgt := 33) hx hb dL_print_128 (by decide) ?_
        have hs : sL_print g = bL_print_33 g n_33 ((31 * (((31 * ((31 * v1) + ((sX6_ofBridge g ((nI v3) / 8) ((nI v3) - (nI v3) / 8 * 8)).toInt64))) + (9 * ((sX6_knows g ((nI v3) - (nI v3) / 8 * 8) ((nI v3) / 8) 0).toInt64))) + ((sX6_knows g ((nI v3) - (nI v3) / 8 * 8) ((nI v3) / 8) 1).toInt64))) + ((sX6_waits g ((nI v3) / 8) ((nI v3) - (nI v3) / 8 * 8)).toInt64)) (v3 + 1) := hs.trans (by rw [bL_print_33, if_neg c_42])
        exact ih_33 ((31 * (((31 * ((31 * v1) + ((sX6_ofBridge g ((nI v3) / 8) ((nI v3) - (nI v3) / 8 * 8)).toInt64))) + (9 * ((sX6_knows g ((nI v3) - (nI v3) / 8 * 8) ((nI v3) / 8) 0).toInt64))) + ((sX6_knows g ((nI v3) - (nI v3) / 8 * 8) ((nI v3) / 8) 1).toInt64))) + ((sX6_waits g ((nI v3) / 8) ((nI v3) - (nI v3) / 8 * 8)).toInt64)) (v3 + 1) (by omega) (by omega) _ _ _ hJ (lv_sub hl [2, 1, 0] rfl) hs
  have bk_6 : ∀ (n : Nat) (v1 : Int64) (v3 : Nat), 13 - v3 < n → (v3 ≤ 13) → ∀ (H : Heap) (locs : List Loc) (ls : Array Slot), JG E B s_ g H locs → lv_has ls 4 [(0, .ref (B + 0)), (1, .long v1), (3, .int (nI v3))] → sL_print g = bL_print_6 g n v1 v3 → W P_ l e_ (rmm 4 87 0 0) s_ m_ a_ below meth cd H locs 0 0 Q (F0 m_ 6 ls []) := by
    intro n
    induction n with
    | zero => intro v1 v3 hm; exact absurd hm (Nat.not_lt_zero _)
    | succ n_6 ih_6 =>
      intro v1 v3 hm hp_6 H locs ls hJ hl hs
      refine lv_iload_n hx hb dL_print_6 rfl (lv_at hl 2 rfl) ?_
      refine lv_bipush (v := 13) hx hb dL_print_7 (by decide) ?_
      refine lv_icmp_ge (tgt := 31) hx hb dL_print_9 (by decide) (fun c_9 => ?_) (fun c_9 => ?_)
      · skip
        refine lv_iconst (v := 0) hx hb dL_print_31 (by decide) ?_
        refine lv_istore_n (lv' := [(3, .int 0), (0, .ref (B + 0)), (1, .long v1)]) hx hb dL_print_32 rfl hl (by decide) rfl (fun ls hl => ?_)
        have hs : sL_print g = bL_print_33 g (nn (8 * (sX6_count g 1)) + 1) v1 0 := hs.trans (by rw [bL_print_6, if_pos c_9])
        exact bk_33 (nn (8 * (sX6_count g 1)) + 1) v1 0 (by omega) (by omega) _ _ _ hJ (lv_sub hl [1, 2, 0] rfl) hs
      · skip
        have hp2_6 : v3 < 13 := lit_lt (n := 13) c_9 (by omega) (by omega)
        refine lv_ldc2 (own := RL) hx hb X.2.2.2.1 (X.2.2.2.2.1 (.constantLong RL 41 31) (tw (i := 473) (by decide +kernel) (by decide))) dL_print_12 ?_
        refine lv_lload_n hx hb dL_print_15 rfl (lv_at hl 1 rfl) ?_
        refine lv_lmul hx hb dL_print_16 ?_
        refine lv_aload_n hx hb dL_print_17 rfl (lv_at hl 0 rfl) ?_
        refine lv_iload_n hx hb dL_print_18 rfl (lv_at hl 2 rfl) ?_
        refine kL_10 X hJ (mX6_count l E B g (nI v3) (hgn)) rfl (by omega) at_X hl.1 ⟨Nat.le_of_ble_eq_true rfl, Nat.le_of_ble_eq_true rfl⟩ ⟨Nat.le_refl _, Nat.le_refl _⟩ (rest := [.long (31 * v1)]) rfl (Nat.le_of_ble_eq_true rfl) dL_print_19 (fun H locs hJ => ?_)
        refine lv_i2l hx hb dL_print_22 rfl ?_
        refine lv_ladd hx hb dL_print_23 ?_
        refine lv_lstore_n (lv' := [(1, .long ((31 * v1) + ((sX6_count g (nI v3)).toInt64))), (0, .ref (B + 0)), (3, .int (nI v3))]) hx hb dL_print_24 rfl hl (by decide) rfl (fun ls hl => ?_)
        refine lv_iinc (v := nI (v3 + 1)) (lv' := [(3, .int (nI (v3 + 1))), (1, .long ((31 * v1) + ((sX6_count g (nI v3)).toInt64))), (0, .ref (B + 0))]) hx hb dL_print_25 hl (k := 2) rfl (by first | exact nI_add _ _ | rfl) (by decide) rfl (fun ls hl => ?_)
        refine lv_goto (tgt := 6) hx hb dL_print_28 (by decide) ?_
        have hs : sL_print g = bL_print_6 g n_6 ((31 * v1) + ((sX6_count g (nI v3)).toInt64)) (v3 + 1) := hs.trans (by rw [bL_print_6, if_neg c_9])
        exact ih_6 ((31 * v1) + ((sX6_count g (nI v3)).toInt64)) (v3 + 1) (by omega) (by omega) _ _ _ hJ (lv_sub hl [2, 1, 0] rfl) hs
  refine lv_ldc2 (own := RL) hx hb X.2.2.2.1 (X.2.2.2.2.1 (.constantLong RL 39 17) (tw (i := 472) (by decide +kernel) (by decide))) dL_print_0 ?_
  refine lv_lstore_n (lv' := [(1, .long 17), (0, .ref (B + 0))]) hx hb dL_print_3 rfl hl (by decide) rfl (fun ls hl => ?_)
  refine lv_iconst (v := 0) hx hb dL_print_4 (by decide) ?_
  refine lv_istore_n (lv' := [(3, .int 0), (1, .long 17), (0, .ref (B + 0))]) hx hb dL_print_5 rfl hl (by decide) rfl (fun ls hl => ?_)
  have hs : sL_print g = bL_print_6 g 14 17 0 := by unfold sL_print; rfl
  exact bk_6 14 17 0 (by omega) (by omega) _ _ _ hJ (lv_sub hl [2, 1, 0] rfl) hs
