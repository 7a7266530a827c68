theorem Pd_o2 {β : Type} {o : Option Nat} {a : β × Row} {f : Nat → β × Row} (h1 : Pd a.2) (h2 : ∀ q, Pd (f q).2) : Pd (oe o a f).2 := by
  cases o with
  | none => exact h1
  | some q => exact h2 q
theorem Pd_ov {o : Option Nat} {a : Row} {f : Nat → Row} (h1 : Pd a) (h2 : ∀ q, Pd (f q)) : Pd (oe o a f) := by
  cases o with
  | none => exact h1
  | some q => exact h2 q
def bX6_appendNote_62 (w : Row) (ct : Nat) : Nat → Row → Nat → Row
  | 0, u62, _ => u62
  | n + 1, u62, p => if 12 ≤ nI p then (u62) else (oe (sX5_bridgeOf w (nI p)) (bX6_appendNote_62 w ct n u62 (p + 1)) (fun q1 => if w (20 + 7 * q1 + 2) ≤ sX1_numbersLeft w ct q1 then (bX6_appendNote_62 w ct n u62 (p + 1)) else (bX6_appendNote_62 w ct n (sX4_appendNumber (sX4_append (sX4_appendNumber (sX4_append (sX4_appendNumber (sX4_append u62 59) (nI p)) 58) (sX1_lowest w ct q1)) 45) (sX1_highest w ct q1)) (p + 1))))
def sX6_appendNote (u : Row) (w : Row) (ct : Nat) : Row := bX6_appendNote_62 w ct 13 (sX4_appendNumber (sX4_append (sX4_appendNumber (sX4_append (sX4_appendNumber (sX4_append u 99) (nI ct)) 64) (w (104 + 8 * ct))) 42) (w (104 + 8 * ct + 1))) 0
set_option maxHeartbeats 4000000 in
set_option maxRecDepth 100000 in
theorem mX6_appendNote (l : Launch) (E : EE) (B : Nat) (g : GS) (ct : Nat) (u w : Row) (hct : ct < 8) (hw0 : g.1 0 = w) (hpd : Pd u) (hcn : Cn w) : CG l yX6_appendNote cX6_appendNote 4 none 2 43 E B [.ref (B + 0), .ref (B + (wo 0 + (17 + 3 * ct)))] (upC g u) none (upC g (sX6_appendNote u w ct)) := by
  refine mkV (own := RX6) rfl (by decide) rfl (Nat.le_of_ble_eq_true rfl) (fun P_ e_ s_ m_ a_ below meth cd Q X _ fin ls hl hJ => ?_)
  have hx := X.1
  have hb := X.2.1
  have hl : lv_has ls 4 [(0, .ref (B + 0)), (1, .ref (B + (wo 0 + (17 + 3 * ct))))] := hl
  have bk_62 : ∀ (n : Nat) (u62 : Row)  (p : Nat), 12 - p < n → (Pd u62) → (p ≤ 12) → ∀ (H : Heap) (locs : List Loc) (ls : Array Slot), JG E B s_ (upC g u62) H locs → lv_has ls 4 [(0, .ref (B + 0)), (1, .ref (B + (wo 0 + (17 + 3 * ct)))), (2, .int (nI p))] → sX6_appendNote u w ct = bX6_appendNote_62 w ct n u62 p → W P_ l e_ (rmm 2 43 0 0) s_ m_ a_ below meth cd H locs 0 0 Q (F0 m_ 62 ls []) := by
    intro n
    induction n with
    | zero => intro u62 p hm; exact absurd hm (Nat.not_lt_zero _)
    | succ n ih =>
      intro u62 p hm hpd hp H locs ls hJ hl hs
      refine lv_iload_n hx hb dX6_appendNote_62 rfl (lv_at hl 2 rfl) ?_
      refine lv_bipush (v := 12) hx hb dX6_appendNote_63 (by decide) ?_
      refine lv_icmp_ge (tgt := 158) hx hb dX6_appendNote_65 (by decide) (fun c_65 => ?_) (fun c_65 => ?_)
      · skip
        have hs : sX6_appendNote u w ct = u62 := hs.trans (by rw [bX6_appendNote_62, if_pos c_65])
        exact fin (by rw [hs]; exact hJ) dX6_appendNote_158
      · skip
        have hp2 := lit_lt (n := 12) c_65 (by omega) (by omega)
        refine lv_aload_n hx hb dX6_appendNote_68 rfl (lv_at hl 0 rfl) ?_
        refine gX6_10 X hJ  dX6_appendNote_69 ?_
        refine lv_iload_n hx hb dX6_appendNote_72 rfl (lv_at hl 2 rfl) ?_
        refine kX6_96 X hJ (mX5_bridgeOf l E B _ 0 (nI p) w (by omega) hw0 (hcn)) rfl (lt_W0 (by omega)) (at_W (by omega) rfl) hl.1 ⟨Nat.le_of_ble_eq_true rfl, Nat.le_of_ble_eq_true rfl⟩ ⟨Nat.le_refl _, Nat.le_refl _⟩ (rest := []) rfl (Nat.le_of_ble_eq_true rfl) dX6_appendNote_73 (fun H locs hJ => ?_)
        rcases o_73 : sX5_bridgeOf w (nI p) with _ | q1
        · skip
          refine lv_astore_nN (lv' := [(3, .null), (0, .ref (B + 0)), (1, .ref (B + (wo 0 + (17 + 3 * ct)))), (2, .int (nI p))]) hx hb dX6_appendNote_76 rfl hl (by decide) rfl (fun ls hl => ?_)
          refine lv_aload_nN hx hb dX6_appendNote_77 rfl (lv_at hl 0 rfl) ?_
          refine lv_ifnullN (tgt := 152) hx hb dX6_appendNote_78 (by decide) ?_
          refine lv_iinc (v := nI (p + 1)) (lv' := [(2, .int (nI (p + 1))), (3, .null), (0, .ref (B + 0)), (1, .ref (B + (wo 0 + (17 + 3 * ct))))]) hx hb dX6_appendNote_152 hl (k := 3) rfl (by first | exact nI_add _ _ | rfl) (by decide) rfl (fun ls hl => ?_)
          refine lv_goto (tgt := 62) hx hb dX6_appendNote_155 (by decide) ?_
          have hs : sX6_appendNote u w ct = bX6_appendNote_62 w ct n u62 (p + 1) := hs.trans (by rw [bX6_appendNote_62, if_neg c_65, oe_none o_73])
          exact ih u62 (p + 1) (by omega) (hpd) (by omega) _ _ _ hJ (lv_sub hl [2, 3, 0] rfl) hs
        · skip
          obtain ⟨hq1, xq1, yq1⟩ := bridgeOf_some (hcn) o_73
          refine lv_astore_n (lv' := [(3, .ref (B + (wo 0 + (5 + q1)))), (0, .ref (B + 0)), (1, .ref (B + (wo 0 + (17 + 3 * ct)))), (2, .int (nI p))]) hx hb dX6_appendNote_76 rfl hl (by decide) rfl (fun ls hl => ?_)
          refine lv_aload_n hx hb dX6_appendNote_77 rfl (lv_at hl 0 rfl) ?_
          refine lv_ifnull hx hb dX6_appendNote_78 ?_
          refine lv_aload_n hx hb dX6_appendNote_81 rfl (lv_at hl 2 rfl) ?_
          refine lv_aload_n hx hb dX6_appendNote_82 rfl (lv_at hl 0 rfl) ?_
          refine kX6_222 X hJ (mX1_numbersLeft l E B _ 0 ct q1 w (by omega) (by omega) (by omega) hw0) rfl (lt_W (by omega) (by omega)) (at_C (by omega) (by omega) hw0) hl.1 ⟨Nat.le_of_ble_eq_true rfl, Nat.le_of_ble_eq_true rfl⟩ ⟨Nat.le_refl _, Nat.le_refl _⟩ (rest := []) rfl (Nat.le_of_ble_eq_true rfl) dX6_appendNote_83 (fun H locs hJ => ?_)
          refine lv_aload_n hx hb dX6_appendNote_86 rfl (lv_at hl 0 rfl) ?_
          refine gX6_158 X hJ (k := 0) (w := w) (by omega) (i := q1) (by omega)  hw0 dX6_appendNote_87 ?_
          refine lv_icmp_ge (tgt := 152) hx hb dX6_appendNote_90 (by decide) (fun c_90 => ?_) (fun c_90 => ?_)
          · skip
            refine lv_iinc (v := nI (p + 1)) (lv' := [(2, .int (nI (p + 1))), (3, .ref (B + (wo 0 + (5 + q1)))), (0, .ref (B + 0)), (1, .ref (B + (wo 0 + (17 + 3 * ct))))]) hx hb dX6_appendNote_152 hl (k := 3) rfl (by first | exact nI_add _ _ | rfl) (by decide) rfl (fun ls hl => ?_)
            refine lv_goto (tgt := 62) hx hb dX6_appendNote_155 (by decide) ?_
            have hs : sX6_appendNote u w ct = bX6_appendNote_62 w ct n u62 (p + 1) := hs.trans (by rw [bX6_appendNote_62, if_neg c_65, oe_some o_73, if_pos c_90])
            exact ih u62 (p + 1) (by omega) (hpd) (by omega) _ _ _ hJ (lv_sub hl [2, 3, 0] rfl) hs
          · skip
            refine lv_aload_n hx hb dX6_appendNote_93 rfl (lv_at hl 1 rfl) ?_
            refine gX6_37 X hJ  dX6_appendNote_94 ?_
            refine lv_bipush (v := 59) hx hb dX6_appendNote_97 (by decide) ?_
            refine kX6_181 X hJ (mX4_append l E B _ 59 u62 (hpd)) rfl (by omega) (at_P rfl) hl.1 ⟨Nat.le_of_ble_eq_true rfl, Nat.le_of_ble_eq_true rfl⟩ ⟨Nat.le_refl _, Nat.le_refl _⟩ (rest := []) rfl (Nat.le_of_ble_eq_true rfl) dX6_appendNote_99 (fun H locs hJ => ?_)
            refine lv_aload_n hx hb dX6_appendNote_102 rfl (lv_at hl 1 rfl) ?_
            refine gX6_37 X hJ  dX6_appendNote_103 ?_
            refine lv_iload_n hx hb dX6_appendNote_106 rfl (lv_at hl 3 rfl) ?_
            refine kX6_213 X hJ (mX4_appendNumber l E B _ (nI p) (sX4_append u62 59) (Pd_append (hpd))) rfl (by omega) (at_P rfl) hl.1 ⟨Nat.le_of_ble_eq_true rfl, Nat.le_of_ble_eq_true rfl⟩ ⟨Nat.le_refl _, Nat.le_refl _⟩ (rest := []) rfl (Nat.le_of_ble_eq_true rfl) dX6_appendNote_107 (fun H locs hJ => ?_)
            refine lv_aload_n hx hb dX6_appendNote_110 rfl (lv_at hl 1 rfl) ?_
            refine gX6_37 X hJ  dX6_appendNote_111 ?_
            refine lv_bipush (v := 58) hx hb dX6_appendNote_114 (by decide) ?_
            refine kX6_181 X hJ (mX4_append l E B _ 58 (sX4_appendNumber (sX4_append u62 59) (nI p)) (Pd_appendNumber (Pd_append (hpd)))) rfl (by omega) (at_P rfl) hl.1 ⟨Nat.le_of_ble_eq_true rfl, Nat.le_of_ble_eq_true rfl⟩ ⟨Nat.le_refl _, Nat.le_refl _⟩ (rest := []) rfl (Nat.le_of_ble_eq_true rfl) dX6_appendNote_116 (fun H locs hJ => ?_)
            refine lv_aload_n hx hb dX6_appendNote_119 rfl (lv_at hl 1 rfl) ?_
            refine gX6_37 X hJ  dX6_appendNote_120 ?_
            refine lv_aload_n hx hb dX6_appendNote_123 rfl (lv_at hl 2 rfl) ?_
            refine lv_aload_n hx hb dX6_appendNote_124 rfl (lv_at hl 0 rfl) ?_
            refine kX6_112 X hJ (mX1_lowest l E B _ 0 ct q1 w (by omega) (by omega) (by omega) hw0) rfl (lt_W (by omega) (by omega)) (at_C (by omega) (by omega) hw0) hl.1 ⟨Nat.le_of_ble_eq_true rfl, Nat.le_of_ble_eq_true rfl⟩ ⟨Nat.le_refl _, Nat.le_refl _⟩ (rest := [.ref (B + 456)]) rfl (Nat.le_of_ble_eq_true rfl) dX6_appendNote_125 (fun H locs hJ => ?_)
            refine kX6_213 X hJ (mX4_appendNumber l E B _ (sX1_lowest w ct q1) (sX4_append (sX4_appendNumber (sX4_append u62 59) (nI p)) 58) (Pd_append (Pd_appendNumber (Pd_append (hpd))))) rfl (by omega) (at_P rfl) hl.1 ⟨Nat.le_of_ble_eq_true rfl, Nat.le_of_ble_eq_true rfl⟩ ⟨Nat.le_refl _, Nat.le_refl _⟩ (rest := []) rfl (Nat.le_of_ble_eq_true rfl) dX6_appendNote_128 (fun H locs hJ => ?_)
            refine lv_aload_n hx hb dX6_appendNote_131 rfl (lv_at hl 1 rfl) ?_
            refine gX6_37 X hJ  dX6_appendNote_132 ?_
            refine lv_bipush (v := 45) hx hb dX6_appendNote_135 (by decide) ?_
            refine kX6_181 X hJ (mX4_append l E B _ 45 (sX4_appendNumber (sX4_append (sX4_appendNumber (sX4_append u62 59) (nI p)) 58) (sX1_lowest w ct q1)) (Pd_appendNumber (Pd_append (Pd_appendNumber (Pd_append (hpd)))))) rfl (by omega) (at_P rfl) hl.1 ⟨Nat.le_of_ble_eq_true rfl, Nat.le_of_ble_eq_true rfl⟩ ⟨Nat.le_refl _, Nat.le_refl _⟩ (rest := []) rfl (Nat.le_of_ble_eq_true rfl) dX6_appendNote_137 (fun H locs hJ => ?_)
            refine lv_aload_n hx hb dX6_appendNote_140 rfl (lv_at hl 1 rfl) ?_
            refine gX6_37 X hJ  dX6_appendNote_141 ?_
            refine lv_aload_n hx hb dX6_appendNote_144 rfl (lv_at hl 2 rfl) ?_
            refine lv_aload_n hx hb dX6_appendNote_145 rfl (lv_at hl 0 rfl) ?_
            refine kX6_116 X hJ (mX1_highest l E B _ 0 ct q1 w (by omega) (by omega) (by omega) hw0) rfl (lt_W (by omega) (by omega)) (at_C (by omega) (by omega) hw0) hl.1 ⟨Nat.le_of_ble_eq_true rfl, Nat.le_of_ble_eq_true rfl⟩ ⟨Nat.le_refl _, Nat.le_refl _⟩ (rest := [.ref (B + 456)]) rfl (Nat.le_of_ble_eq_true rfl) dX6_appendNote_146 (fun H locs hJ => ?_)
            refine kX6_213 X hJ (mX4_appendNumber l E B _ (sX1_highest w ct q1) (sX4_append (sX4_appendNumber (sX4_append (sX4_appendNumber (sX4_append u62 59) (nI p)) 58) (sX1_lowest w ct q1)) 45) (Pd_append (Pd_appendNumber (Pd_append (Pd_appendNumber (Pd_append (hpd))))))) rfl (by omega) (at_P rfl) hl.1 ⟨Nat.le_of_ble_eq_true rfl, Nat.le_of_ble_eq_true rfl⟩ ⟨Nat.le_refl _, Nat.le_refl _⟩ (rest := []) rfl (Nat.le_of_ble_eq_true rfl) dX6_appendNote_149 (fun H locs hJ => ?_)
            refine lv_iinc (v := nI (p + 1)) (lv' := [(2, .int (nI (p + 1))), (3, .ref (B + (wo 0 + (5 + q1)))), (0, .ref (B + 0)), (1, .ref (B + (wo 0 + (17 + 3 * ct))))]) hx hb dX6_appendNote_152 hl (k := 3) rfl (by first | exact nI_add _ _ | rfl) (by decide) rfl (fun ls hl => ?_)
            refine lv_goto (tgt := 62) hx hb dX6_appendNote_155 (by decide) ?_
            have hs : sX6_appendNote u w ct = bX6_appendNote_62 w ct n (sX4_appendNumber (sX4_append (sX4_appendNumber (sX4_append (sX4_appendNumber (sX4_append u62 59) (nI p)) 58) (sX1_lowest w ct q1)) 45) (sX1_highest w ct q1)) (p + 1) := hs.trans (by rw [bX6_appendNote_62, if_neg c_65, oe_some o_73, if_neg c_90])
            exact ih (sX4_appendNumber (sX4_append (sX4_appendNumber (sX4_append (sX4_appendNumber (sX4_append u62 59) (nI p)) 58) (sX1_lowest w ct q1)) 45) (sX1_highest w ct q1)) (p + 1) (by omega) (Pd_appendNumber (Pd_append (Pd_appendNumber (Pd_append (Pd_appendNumber (Pd_append (hpd))))))) (by omega) _ _ _ hJ (lv_sub hl [2, 3, 0] rfl) hs
  refine lv_aload_n hx hb dX6_appendNote_0 rfl (lv_at hl 0 rfl) ?_
  refine gX6_37 X hJ  dX6_appendNote_1 ?_
  refine lv_bipush (v := 99) hx hb dX6_appendNote_4 (by decide) ?_
  refine kX6_181 X hJ (mX4_append l E B _ 99 u (hpd)) rfl (by omega) (at_P rfl) hl.1 ⟨Nat.le_of_ble_eq_true rfl, Nat.le_of_ble_eq_true rfl⟩ ⟨Nat.le_refl _, Nat.le_refl _⟩ (rest := []) rfl (Nat.le_of_ble_eq_true rfl) dX6_appendNote_6 (fun H locs hJ => ?_)
  refine lv_aload_n hx hb dX6_appendNote_9 rfl (lv_at hl 0 rfl) ?_
  refine gX6_37 X hJ  dX6_appendNote_10 ?_
  refine lv_aload_n hx hb dX6_appendNote_13 rfl (lv_at hl 1 rfl) ?_
  refine gX6_207 X hJ (k := 0) (w := w) (by omega) (i := ct) (by omega)  hw0 dX6_appendNote_14 ?_
  refine kX6_213 X hJ (mX4_appendNumber l E B _ (nI ct) (sX4_append u 99) (Pd_append (hpd))) rfl (by omega) (at_P rfl) hl.1 ⟨Nat.le_of_ble_eq_true rfl, Nat.le_of_ble_eq_true rfl⟩ ⟨Nat.le_refl _, Nat.le_refl _⟩ (rest := []) rfl (Nat.le_of_ble_eq_true rfl) dX6_appendNote_17 (fun H locs hJ => ?_)
  refine lv_aload_n hx hb dX6_appendNote_20 rfl (lv_at hl 0 rfl) ?_
  refine gX6_37 X hJ  dX6_appendNote_21 ?_
  refine lv_bipush (v := 64) hx hb dX6_appendNote_24 (by decide) ?_
  refine kX6_181 X hJ (mX4_append l E B _ 64 (sX4_appendNumber (sX4_append u 99) (nI ct)) (Pd_appendNumber (Pd_append (hpd)))) rfl (by omega) (at_P rfl) hl.1 ⟨Nat.le_of_ble_eq_true rfl, Nat.le_of_ble_eq_true rfl⟩ ⟨Nat.le_refl _, Nat.le_refl _⟩ (rest := []) rfl (Nat.le_of_ble_eq_true rfl) dX6_appendNote_26 (fun H locs hJ => ?_)
  refine lv_aload_n hx hb dX6_appendNote_29 rfl (lv_at hl 0 rfl) ?_
  refine gX6_37 X hJ  dX6_appendNote_30 ?_
  refine lv_aload_n hx hb dX6_appendNote_33 rfl (lv_at hl 1 rfl) ?_
  refine gX6_216 X hJ (k := 0) (w := w) (by omega) (i := ct) (by omega)  hw0 dX6_appendNote_34 ?_
  refine kX6_213 X hJ (mX4_appendNumber l E B _ (w (104 + 8 * ct)) (sX4_append (sX4_appendNumber (sX4_append u 99) (nI ct)) 64) (Pd_append (Pd_appendNumber (Pd_append (hpd))))) rfl (by omega) (at_P rfl) hl.1 ⟨Nat.le_of_ble_eq_true rfl, Nat.le_of_ble_eq_true rfl⟩ ⟨Nat.le_refl _, Nat.le_refl _⟩ (rest := []) rfl (Nat.le_of_ble_eq_true rfl) dX6_appendNote_37 (fun H locs hJ => ?_)
  refine lv_aload_n hx hb dX6_appendNote_40 rfl (lv_at hl 0 rfl) ?_
  refine gX6_37 X hJ  dX6_appendNote_41 ?_
  refine lv_bipush (v := 42) hx hb dX6_appendNote_44 (by decide) ?_
  refine kX6_181 X hJ (mX4_append l E B _ 42 (sX4_appendNumber (sX4_append (sX4_appendNumber (sX4_append u 99) (nI ct)) 64) (w (104 + 8 * ct))) (Pd_appendNumber (Pd_append (Pd_appendNumber (Pd_append (hpd)))))) rfl (by omega) (at_P rfl) hl.1 ⟨Nat.le_of_ble_eq_true rfl, Nat.le_of_ble_eq_true rfl⟩ ⟨Nat.le_refl _, Nat.le_refl _⟩ (rest := []) rfl (Nat.le_of_ble_eq_true rfl) dX6_appendNote_46 (fun H locs hJ => ?_)
  refine lv_aload_n hx hb dX6_appendNote_49 rfl (lv_at hl 0 rfl) ?_
  refine gX6_37 X hJ  dX6_appendNote_50 ?_
  refine lv_aload_n hx hb dX6_appendNote_53 rfl (lv_at hl 1 rfl) ?_
  refine gX6_219 X hJ (k := 0) (w := w) (by omega) (i := ct) (by omega)  hw0 dX6_appendNote_54 ?_
  refine kX6_213 X hJ (mX4_appendNumber l E B _ (w (104 + 8 * ct + 1)) (sX4_append (sX4_appendNumber (sX4_append (sX4_appendNumber (sX4_append u 99) (nI ct)) 64) (w (104 + 8 * ct))) 42) (Pd_append (Pd_appendNumber (Pd_append (Pd_appendNumber (Pd_append (hpd))))))) rfl (by omega) (at_P rfl) hl.1 ⟨Nat.le_of_ble_eq_true rfl, Nat.le_of_ble_eq_true rfl⟩ ⟨Nat.le_refl _, Nat.le_refl _⟩ (rest := []) rfl (Nat.le_of_ble_eq_true rfl) dX6_appendNote_57 (fun H locs hJ => ?_)
  refine lv_iconst (v := 0) hx hb dX6_appendNote_60 (by decide) ?_
  refine lv_istore_n (lv' := [(2, .int 0), (0, .ref (B + 0)), (1, .ref (B + (wo 0 + (17 + 3 * ct))))]) hx hb dX6_appendNote_61 rfl hl (by decide) rfl (fun ls hl => ?_)
  have hs : sX6_appendNote u w ct = bX6_appendNote_62 w ct 13 (sX4_appendNumber (sX4_append (sX4_appendNumber (sX4_append (sX4_appendNumber (sX4_append u 99) (nI ct)) 64) (w (104 + 8 * ct))) 42) (w (104 + 8 * ct + 1))) 0 := by unfold sX6_appendNote; rfl
  exact bk_62 13 (sX4_appendNumber (sX4_append (sX4_appendNumber (sX4_append (sX4_appendNumber (sX4_append u 99) (nI ct)) 64) (w (104 + 8 * ct))) 42) (w (104 + 8 * ct + 1))) 0 (by omega) (Pd_appendNumber (Pd_append (Pd_appendNumber (Pd_append (Pd_appendNumber (Pd_append (hpd))))))) (by omega) _ _ _ hJ (lv_sub hl [1, 2, 0] rfl) hs

theorem Pd_bX6_appendNote_62 {w : Row} {ct : Nat}  : ∀ (n : Nat) (u62 : Row) (p : Nat), Pd u62 → Pd (bX6_appendNote_62 w ct n u62 p) := by
  intro n
  induction n with
  | zero => intro u62 p h; exact h
  | succ n ih =>
    intro u62 p h
    rw [bX6_appendNote_62]
    exact Pd_iv (h) (Pd_ov (ih _ _ (h)) (fun q1 => Pd_iv (ih _ _ (h)) (ih _ _ (Pd_appendNumber (Pd_append (Pd_appendNumber (Pd_append (Pd_appendNumber (Pd_append (h))))))))))
theorem Pd_sX6_appendNote {u : Row} {w : Row} {ct : Nat}  (h : Pd u) : Pd (sX6_appendNote u w ct) := by
  unfold sX6_appendNote
  exact Pd_bX6_appendNote_62 _ _ _ (Pd_appendNumber (Pd_append (Pd_appendNumber (Pd_append (Pd_appendNumber (Pd_append (h)))))))
def sX6_write (u : Row) (w : Row) (x : Int32) : Int32 × Row := oe (sX5_cartOf w x) (((-1), u)) (fun q1 => ((sX6_appendNote (sX4_clear u) w q1) 3, sX6_appendNote (sX4_clear u) w q1))
set_option maxHeartbeats 4000000 in
set_option maxRecDepth 100000 in
theorem mX6_write (l : Launch) (E : EE) (B : Nat) (g : GS) (x : Int32) (u w : Row) (hw0 : g.1 0 = w) (hpd : Pd u) (hcn : Cn w) : CG l yX6_write cX6_write 3 (some .int) 3 66 E B [.ref (B + 0), .int x] (upC g u) (some (.int (sX6_write u w x).1)) (upC g ((sX6_write u w x).2)) := by
  refine mkI (own := RX6) (ty := .int) rfl (by decide) rfl (rfl) (Nat.le_of_ble_eq_true rfl) (fun P_ e_ s_ m_ a_ below meth cd Q X fin ls hl hJ => ?_)
  have hx := X.1
  have hb := X.2.1
  have hl : lv_has ls 3 [(0, .ref (B + 0)), (1, .int x)] := hl
  refine lv_aload_n hx hb dX6_write_0 rfl (lv_at hl 0 rfl) ?_
  refine gX6_10 X hJ  dX6_write_1 ?_
  refine lv_iload_n hx hb dX6_write_4 rfl (lv_at hl 1 rfl) ?_
  refine kX6_81 X hJ (mX5_cartOf l E B _ 0 x w (by omega) hw0 (hcn)) rfl (lt_W0 (by omega)) (at_W (by omega) rfl) hl.1 ⟨Nat.le_of_ble_eq_true rfl, Nat.le_of_ble_eq_true rfl⟩ ⟨Nat.le_refl _, Nat.le_refl _⟩ (rest := []) rfl (Nat.le_of_ble_eq_true rfl) dX6_write_5 (fun H locs hJ => ?_)
  rcases o_5 : sX5_cartOf w x with _ | q1
  · skip
    refine lv_astore_nN (lv' := [(2, .null), (0, .ref (B + 0)), (1, .int x)]) hx hb dX6_write_8 rfl hl (by decide) rfl (fun ls hl => ?_)
    refine lv_aload_nN hx hb dX6_write_9 rfl (lv_at hl 0 rfl) ?_
    refine lv_ifnonnullN hx hb dX6_write_10 ?_
    refine lv_iconst (v := (-1)) hx hb dX6_write_13 (by decide) ?_
    have hs : sX6_write u w x = ((-1), u) := by unfold sX6_write; rw [oe_none o_5]
    exact fin (by rw [hs]; dsimp only; exact hJ) (by rw [hs]) dX6_write_14
  · skip
    obtain ⟨hq1, xq1, yq1⟩ := cartOf_some (hcn) o_5
    refine lv_astore_n (lv' := [(2, .ref (B + (wo 0 + (17 + 3 * q1)))), (0, .ref (B + 0)), (1, .int x)]) hx hb dX6_write_8 rfl hl (by decide) rfl (fun ls hl => ?_)
    refine lv_aload_n hx hb dX6_write_9 rfl (lv_at hl 0 rfl) ?_
    refine lv_ifnonnull (tgt := 15) hx hb dX6_write_10 (by decide) ?_
    refine lv_aload_n hx hb dX6_write_15 rfl (lv_at hl 1 rfl) ?_
    refine gX6_37 X hJ  dX6_write_16 ?_
    refine kX6_85 X hJ (mX4_clear l E B _ u) rfl (by omega) (at_P rfl) hl.1 ⟨Nat.le_of_ble_eq_true rfl, Nat.le_of_ble_eq_true rfl⟩ ⟨Nat.le_refl _, Nat.le_refl _⟩ (rest := []) rfl (Nat.le_of_ble_eq_true rfl) dX6_write_19 (fun H locs hJ => ?_)
    refine lv_aload_n hx hb dX6_write_22 rfl (lv_at hl 1 rfl) ?_
    refine lv_aload_n hx hb dX6_write_23 rfl (lv_at hl 0 rfl) ?_
    refine kX6_88 X hJ (mX6_appendNote l E B _ q1 (sX4_clear u) w (by omega) hw0 (Pd_clear_of (hpd)) (hcn)) rfl (by omega) at_X hl.1 ⟨Nat.le_of_ble_eq_true rfl, Nat.le_of_ble_eq_true rfl⟩ ⟨Nat.le_refl _, Nat.le_refl _⟩ (rest := []) rfl (Nat.le_of_ble_eq_true rfl) dX6_write_24 (fun H locs hJ => ?_)
    refine lv_aload_n hx hb dX6_write_27 rfl (lv_at hl 1 rfl) ?_
    refine gX6_37 X hJ  dX6_write_28 ?_
    refine gX6_92 X hJ (w := sX6_appendNote (sX4_clear u) w q1) rfl dX6_write_31 ?_
    have hs : sX6_write u w x = ((sX6_appendNote (sX4_clear u) w q1) 3, sX6_appendNote (sX4_clear u) w q1) := by unfold sX6_write; rw [oe_some o_5]
    exact fin (by rw [hs]; dsimp only; exact hJ) (by rw [hs]) dX6_write_34

